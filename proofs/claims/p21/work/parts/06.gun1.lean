theorem ja_b_0 {p : Prop} [Decidable p] : ja_b p = 0 ↔ ¬ p := by
  unfold ja_b
  by_cases h : p
  · rw [if_pos h]
    exact ⟨fun q => absurd q (by decide), fun q => absurd h q⟩
  · rw [if_neg h]
    exact ⟨fun _ => h, fun _ => rfl⟩
theorem ja_b_r {p : Prop} [Decidable p] : 0 ≤ ja_b p ∧ ja_b p ≤ 1 := by
  unfold ja_b
  by_cases h : p
  · rw [if_pos h]
    omega
  · rw [if_neg h]
    omega
-- the whole object at y: receiver y + 1, forecast y + 21, slots y + 41, text y + 42, described y + 44
def ja_LB (lay : ja_Y) (y : Nat) (sl : Nat → Option Nat) : Prop := lay y = some (.inl (8, [some (.ref (y + 1)), some (.ref (y + 21)), some (.ref (y + 41)), some (.ref (y + 42)), some (.ref (y + 44))])) ∧ ja_LR lay (y + 1) ∧ ja_LR lay (y + 21) ∧ lay (y + 41) = some (.inr (3, 2, sl)) ∧ ja_LX lay (y + 42) ∧ ja_LA lay (y + 44) ∧ ∀ i o, i < 2 → sl i = some o → y + 49 ≤ o ∧ ja_LR lay o
theorem ja_LB_1 {lay : ja_Y} {y : Nat} {sl : Nat → Option Nat} (h : ja_LB lay y sl) : ja_LR lay (y + 1) := h.2.1
theorem ja_LB_21 {lay : ja_Y} {y : Nat} {sl : Nat → Option Nat} (h : ja_LB lay y sl) : ja_LR lay (y + 21) := h.2.2.1
theorem ja_LB_41 {lay : ja_Y} {y : Nat} {sl : Nat → Option Nat} (h : ja_LB lay y sl) : lay (y + 41) = some (.inr (3, 2, sl)) := h.2.2.2.1
theorem ja_LB_42 {lay : ja_Y} {y : Nat} {sl : Nat → Option Nat} (h : ja_LB lay y sl) : ja_LX lay (y + 42) := h.2.2.2.2.1
theorem ja_LB_44 {lay : ja_Y} {y : Nat} {sl : Nat → Option Nat} (h : ja_LB lay y sl) : ja_LA lay (y + 44) := h.2.2.2.2.2.1
/-- the text's ranges -/
def ja_HO (mem : ja_M) (x : Nat) : Prop := (0 ≤ mem x 1 ∧ mem x 1 ≤ 120) ∧ (∀ j, 0 ≤ mem (x + 1) j ∧ mem (x + 1) j ≤ 126) ∧ (0 ≤ mem x 5 ∧ mem x 5 ≤ 2) ∧ (0 ≤ mem x 6 ∧ mem x 6 ≤ 9999) ∧ (0 ≤ mem x 7 ∧ mem x 7 ≤ 9999)
def ja_BO (mem : ja_M) (y : Nat) (sl : Nat → Option Nat) (t : Int) : Prop := ja_RO mem (y + 1) t ∧ (∃ t', ja_RO mem (y + 21) t') ∧ ja_HO mem (y + 42) ∧ ja_AO mem (y + 44) ∧ ∀ i o, i < 2 → sl i = some o → ja_RO mem o t
def B_adv (mem : ja_M) (b : Nat) : Nat → ja_M
  | 0 => mem
  | k + 1 => R_tk (B_adv mem b k) b
theorem B_adv_RO {mem : ja_M} {b : Nat} {t : Int} (h : ja_RO mem b t) : ∀ k : Nat, t + k ≤ 900001 → ja_RO (B_adv mem b k) b (t + k)
  | 0, _ => by
    rw [show t + ((0 : Nat) : Int) = t by omega]
    exact h
  | k + 1, hk => by
    have ih := B_adv_RO h k (by omega)
    have := R_tk_RO ih (by omega)
    rw [show t + ((k + 1 : Nat) : Int) = t + k + 1 by omega]
    exact this
abbrev B_isF (x : Int) : Prop := 0 ≤ x ∧ x ≤ 999
/-- something has arrived, or is scheduled -/
abbrev B_bg (mem : ja_M) (y : Nat) : Prop := ¬ mem (y + 1) 7 = 0 ∨ 0 < mem (y + 1 + 15) 4
def B_gap (b : Nat) (c : Int) : Nat → Nat → ja_M → Int × ja_M
  | 0, _, m => (-1004, m)
  | r + 1, i, m => if c < R_tk m b (b + 14) 2 then ((i : Int), R_tk m b) else B_gap b c r (i + 1) (R_tk m b)
def B_fra (b : Nat) (x : Int) : Nat → Nat → ja_M → Int × ja_M
  | 0, _, m => (-1004, m)
  | r + 1, i, m => if x < R_tk m b (b + 9) 6 then ((i : Int), R_tk m b) else B_fra b x r (i + 1) (R_tk m b)
def B_cd : Nat → Int → Int → Int
  | 0, a, _ => a
  | k + 1, a, b => if b = 0 then a else B_cd k b (a % b)
def B_par (mem : ja_M) (s : Nat) (r k i p : Int) : Nat → Int
  | 0 => 0
  | j + 1 => if 999 < ja_cov mem s r k i j then B_par mem s r k i p j else (ja_I (B_par mem s r k i p j) ^^^ ja_I (ja_wave mem s (ja_cov mem s r k i j) p + 128)).toInt
theorem B_cd_in : ∀ (k : Nat) (a b : Int), 0 ≤ a → 0 ≤ b → 0 ≤ B_cd k a b ∧ (B_cd k a b ≤ a ∨ B_cd k a b ≤ b)
  | 0, a, b, ha, hb => by
    simp only [B_cd]
    omega
  | k + 1, a, b, ha, hb => by
    simp only [B_cd]
    split
    · omega
    · have h1 := Int.emod_nonneg a (show b ≠ 0 by omega)
      have h2 := Int.emod_lt_of_pos a (show 0 < b by omega)
      have := B_cd_in k b (a % b) hb h1
      omega
/-- ticksToFrame's end -/
abbrev ja_tf (lay : ja_Y) (mem : ja_M) (n y : Nat) (x : Int) : ja_P := ja_rd lay (if B_isF x then (if x < mem (y + 1 + 9) 6 then mem else (B_fra (y + 21) x 2000 0 (R_cp mem (y + 21) (y + 1))).2) else mem) n (some (.int (ja_I (if B_isF x then (if x < mem (y + 1 + 9) 6 then -1003 else (B_fra (y + 21) x 2000 0 (R_cp mem (y + 21) (y + 1))).1) else -1001))))
theorem HO_XO {mem : ja_M} {x o : Nat} (h : ja_HO mem x) (hxo : x ≠ o) : ja_XO (ja_up (ja_up mem o 4 0) x 2 0) x := by
  obtain ⟨h1, h2, h5, h6, h7⟩ := h
  unfold ja_XO
  rw [ja_up_s, ja_up_j (show (5 : Nat) ≠ 2 by omega), ja_up_j (show (6 : Nat) ≠ 2 by omega), ja_up_j (show (7 : Nat) ≠ 2 by omega), ja_up_a (show x ≠ o by omega), ja_up_a (show x ≠ o by omega), ja_up_a (show x ≠ o by omega)]
  exact ⟨by omega, Or.inl rfl, h5, h6, h7⟩
theorem AO_0 {mem : ja_M} {x o : Nat} (h : ja_AO mem o) (hxo : x < o ∨ o + 5 ≤ x) : ja_AO (ja_up (ja_up mem o 4 0) x 2 0) o := by
  obtain ⟨h0, h1, h2, h3, h4⟩ := h
  refine ⟨by rw [ja_up_a (by omega), ja_up_s]; omega, fun j => ?_, fun j => ?_, fun j => ?_, fun j => ?_⟩
  · rw [ja_up_a (by omega), ja_up_a (by omega)]
    exact h1 j
  · rw [ja_up_a (by omega), ja_up_a (by omega)]
    exact h2 j
  · rw [ja_up_a (by omega), ja_up_a (by omega)]
    exact h3 j
  · rw [ja_up_a (by omega), ja_up_a (by omega)]
    exact h4 j
/-- the text's fault, and the memory behind the reading -/
def B_rd (mem : ja_M) (y : Nat) : Int × ja_M := X_lp (mem (y + 42 + 1)) (y + 42) (y + 44) (mem (y + 42) 1) (mem (y + 42) 1).toNat 0 (ja_up (ja_up mem (y + 44) 4 0) (y + 42) 2 0)
theorem X_fm_567 {mem : ja_M} {x o : Nat} {c : Int} (h : ja_XO mem x) (hxo : x < o ∨ o + 5 ≤ x) : (0 ≤ X_fm mem x o c x 5 ∧ X_fm mem x o c x 5 ≤ 2) ∧ (0 ≤ X_fm mem x o c x 6 ∧ X_fm mem x o c x 6 ≤ 9999) ∧ (0 ≤ X_fm mem x o c x 7 ∧ X_fm mem x o c x 7 ≤ 9999) := by
  by_cases h2 : mem x 2 = 0
  · have h3 : X_fm mem x o c = X_be mem x c := by rw [X_fm, if_pos h2]
    rw [h3]
    exact (X_be_XO h).2.2
  · by_cases hc : 48 ≤ c ∧ c ≤ 57
    · have h3 : X_fm mem x o c = ja_up (ja_up mem x 4 (10 * mem x 4 + c - 48)) x 3 (mem x 3 + 1) := by rw [X_fm, if_neg h2, if_pos hc]
      rw [h3, ja_up_j (show (5 : Nat) ≠ 3 by omega), ja_up_j (show (5 : Nat) ≠ 4 by omega), ja_up_j (show (6 : Nat) ≠ 3 by omega), ja_up_j (show (6 : Nat) ≠ 4 by omega), ja_up_j (show (7 : Nat) ≠ 3 by omega), ja_up_j (show (7 : Nat) ≠ 4 by omega)]
      exact h.2.2
    · by_cases hd : mem x 3 = 0 ∨ ¬ c = X_eon mem x
      · have h3 : X_fm mem x o c = mem := by rw [X_fm, if_neg h2, if_neg hc, if_pos hd]
        rw [h3]
        exact h.2.2
      · have h3 : X_fm mem x o c = X_en mem x o := by rw [X_fm, if_neg h2, if_neg hc, if_neg hd]
        rw [h3]
        exact (X_en_XO h h2 hxo).2.2
theorem X_lp_all {f : Nat → Int} {x o : Nat} {ln : Int} (hxo : x + 1 < o ∨ o + 5 ≤ x) : ∀ (r i : Nat) (m : ja_M), ja_XO m x → ja_AO m o → ja_AO (X_lp f x o ln r i m).2 o ∧ (∀ q, q ≠ x → (q < o ∨ o + 5 ≤ q) → (X_lp f x o ln r i m).2 q = m q) ∧ (X_lp f x o ln r i m).2 x 1 = m x 1 ∧ (0 ≤ (X_lp f x o ln r i m).2 x 5 ∧ (X_lp f x o ln r i m).2 x 5 ≤ 2) ∧ (0 ≤ (X_lp f x o ln r i m).2 x 6 ∧ (X_lp f x o ln r i m).2 x 6 ≤ 9999) ∧ (0 ≤ (X_lp f x o ln r i m).2 x 7 ∧ (X_lp f x o ln r i m).2 x 7 ≤ 9999)
  | 0, i, m, hX, hA => ⟨hA, fun _ _ _ => rfl, rfl, hX.2.2.1, hX.2.2.2.1, hX.2.2.2.2⟩
  | r + 1, i, m, hX, hA => by
    simp only [X_lp]
    split
    · exact ⟨X_fm_AO hX hA (by omega), fun q a b => X_fm_o ⟨a, b⟩, X_fm_1 (by omega), X_fm_567 hX (by omega)⟩
    · rename_i hb
      obtain ⟨i1, i2, i3, i4⟩ := X_lp_all (f := f) (ln := ln) hxo r (i + 1) (X_fm m x o (f i)) (X_fm_XO hX (by omega) hb) (X_fm_AO hX hA (by omega))
      exact ⟨i1, fun q a b => (i2 q a b).trans (X_fm_o ⟨a, b⟩), i3.trans (X_fm_1 (by omega)), i4⟩
theorem B_rd_all {mem : ja_M} {y : Nat} (hH : ja_HO mem (y + 42)) (hA : ja_AO mem (y + 44)) : ja_AO (B_rd mem y).2 (y + 44) ∧ ja_HO (B_rd mem y).2 (y + 42) ∧ ∀ q, (q < y + 42 ∨ y + 49 ≤ q) → (B_rd mem y).2 q = mem q := by
  obtain ⟨h1, h2, h3, h4, h5, h6⟩ := X_lp_all (f := mem (y + 42 + 1)) (x := y + 42) (o := y + 44) (ln := mem (y + 42) 1) (by omega) (mem (y + 42) 1).toNat 0 _ (HO_XO hH (by omega)) (AO_0 hA (by omega))
  refine ⟨h1, ⟨?_, fun j => ?_, h4, h5, h6⟩, fun q hq => ?_⟩
  · have e : (B_rd mem y).2 (y + 42) 1 = mem (y + 42) 1 := h3.trans (by rw [ja_up_j (by omega), ja_up_a (by omega)])
    rw [e]
    exact hH.1
  · have e : (B_rd mem y).2 (y + 42 + 1) = mem (y + 42 + 1) := (h2 _ (by omega) (by omega)).trans (by rw [ja_up_row (by omega), ja_up_row (by omega)])
    rw [e]
    exact hH.2.1 j
  · show (X_lp _ _ _ _ _ _ _).2 q = mem q
    rw [h2 _ (by omega) (by omega), ja_up_row (by omega), ja_up_row (by omega)]
/-- arrival i of the text names what exists, at a time to come -/
abbrev B_ca (m : ja_M) (y : Nat) (i : Nat) : Prop := m (y + 1) 6 < m (y + 44 + 4) i ∧ (if m (y + 44 + 1) i = 0 then B_isF (m (y + 44 + 2) i) else ja_hasP m (y + 1 + 1) (ja_b (m (y + 44 + 1) i = 1)) (m (y + 44 + 2) i) (m (y + 44 + 3) i))
def B_cas (m : ja_M) (y : Nat) : Nat → Nat → Int
  | 0, _ => 1
  | r + 1, i => if B_ca m y i then B_cas m y r (i + 1) else 0
def B_sc (mem : ja_M) (y : Nat) : Int × ja_M :=
  if (B_rd mem y).1 = -1004 then
    if B_cas (B_rd mem y).2 y ((B_rd mem y).2 (y + 44) 4).toNat 0 = 0 then (-1001, (B_rd mem y).2)
    else if 24 < (B_rd mem y).2 (y + 1 + 15) 4 + (B_rd mem y).2 (y + 44) 4 then (-1002, (B_rd mem y).2)
    else ((B_rd mem y).2 (y + 44) 4, A_all (B_rd mem y).2 (y + 1 + 15) (y + 44) ((B_rd mem y).2 (y + 44) 4).toNat)
  else (-1003, (B_rd mem y).2)
theorem ja_RO_all {mem mem' : ja_M} {b : Nat} {t : Int} (h : ∀ q, b ≤ q → q < b + 20 → mem' q = mem q) (hO : ja_RO mem b t) : ja_RO mem' b t := by
  have g := hO
  obtain ⟨g1, g2, g3, g4, g5, g6, g7, g8, g9, g10, g11, g12⟩ := hO
  have hb := h b (by omega) (by omega)
  exact ja_RO_c g (fun j _ _ => by rw [hb]) (by rw [hb]; exact g7) (by rw [hb]; exact g8) (h _ (by omega) (by omega)) (ja_TO_c (h _ (by omega) (by omega)) (h _ (by omega) (by omega)) (h _ (by omega) (by omega)) g2) (fun q q1 q2 => h _ (by omega) (by omega)) (fun j _ => by rw [h _ (by omega) (by omega)]) (fun q q1 q2 => h _ (by omega) (by omega))
theorem X_lp_in {f : Nat → Int} {x o : Nat} {ln : Int} (hl : 0 ≤ ln ∧ ln ≤ 120) : ∀ (r i : Nat) (m : ja_M), i + r ≤ 120 → -1004 ≤ (X_lp f x o ln r i m).1 ∧ (X_lp f x o ln r i m).1 ≤ 120
  | 0, i, m, _ => by
    simp only [X_lp]
    split <;> omega
  | r + 1, i, m, h => by
    simp only [X_lp]
    split
    · exact ⟨by omega, by omega⟩
    · exact X_lp_in hl r (i + 1) _ (by omega)
theorem B_rd_in {mem : ja_M} {y : Nat} (hH : ja_HO mem (y + 42)) : -1004 ≤ (B_rd mem y).1 ∧ (B_rd mem y).1 ≤ 120 := X_lp_in hH.1 _ 0 _ (by have := hH.1; omega)
