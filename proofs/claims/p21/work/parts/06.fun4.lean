-- Text
def X_ex (mem : ja_M) (x : Nat) (p : Int) : ja_M := ja_up (ja_up (ja_up mem x 2 p) x 3 0) x 4 0
def X_be (mem : ja_M) (x : Nat) (c : Int) : ja_M := if c = 100 then X_ex (ja_up mem x 5 0) x 1 else if c = 114 then X_ex (ja_up mem x 5 1) x 2 else if c = 99 then X_ex (ja_up mem x 5 2) x 2 else mem
def X_eon (mem : ja_M) (x : Nat) : Int := if mem x 2 = 2 then 46 else if mem x 2 = 4 then 59 else 64
def X_en (mem : ja_M) (x o : Nat) : ja_M := if mem x 2 = 2 then X_ex (ja_up mem x 6 (mem x 4)) x 3 else if mem x 2 = 3 then X_ex (ja_up mem x 7 (mem x 4)) x 4 else if mem x 2 = 4 then X_ex (A_add mem o (mem x 5) (mem x 6) (mem x 7) (mem x 4)) x 0 else X_ex (ja_up mem x 6 (mem x 4)) x 4
def X_fm (mem : ja_M) (x o : Nat) (c : Int) : ja_M := if mem x 2 = 0 then X_be mem x c else if 48 ≤ c ∧ c ≤ 57 then ja_up (ja_up mem x 4 (10 * mem x 4 + c - 48)) x 3 (mem x 3 + 1) else if mem x 3 = 0 ∨ ¬ c = X_eon mem x then mem else X_en mem x o
def X_fb (mem : ja_M) (x : Nat) (c : Int) : Int := if mem x 2 = 0 then ja_b (c = 100 ∨ c = 114 ∨ c = 99) else if 48 ≤ c ∧ c ≤ 57 then ja_b (mem x 3 + 1 ≤ 4) else if mem x 3 = 0 ∨ ¬ c = X_eon mem x then 0 else 1
def X_lp (f : Nat → Int) (x o : Nat) (ln : Int) : Nat → Nat → ja_M → Int × ja_M
  | 0, _, m => (if m x 2 = 0 then -1004 else ln, m)
  | r + 1, i, m => if X_fb m x (f i) = 0 then ((i : Int), X_fm m x o (f i)) else X_lp f x o ln r (i + 1) (X_fm m x o (f i))
/-- a text in reading: what is expected, the digits so far and their value, the numbers of the entry -/
def ja_XO (mem : ja_M) (x : Nat) : Prop := (0 ≤ mem x 2 ∧ mem x 2 ≤ 4) ∧ (mem x 2 = 0 ∨ (0 ≤ mem x 4 ∧ ((mem x 3 = 0 ∧ mem x 4 ≤ 0) ∨ (mem x 3 = 1 ∧ mem x 4 ≤ 9) ∨ (mem x 3 = 2 ∧ mem x 4 ≤ 99) ∨ (mem x 3 = 3 ∧ mem x 4 ≤ 999) ∨ (mem x 3 = 4 ∧ mem x 4 ≤ 9999)))) ∧ (0 ≤ mem x 5 ∧ mem x 5 ≤ 2) ∧ (0 ≤ mem x 6 ∧ mem x 6 ≤ 9999) ∧ (0 ≤ mem x 7 ∧ mem x 7 ≤ 9999)
def ja_n4 (z : Int) : Prop := 0 ≤ z ∧ z ≤ 9999
/-- arrivals: a size, their kinds, numbers that the text can bear -/
def ja_AO (mem : ja_M) (o : Nat) : Prop := (0 ≤ mem o 4 ∧ mem o 4 ≤ 24) ∧ (∀ j, 0 ≤ mem (o + 1) j ∧ mem (o + 1) j ≤ 2) ∧ (∀ j, ja_n4 (mem (o + 2) j)) ∧ (∀ j, ja_n4 (mem (o + 3) j)) ∧ ∀ j, ja_n4 (mem (o + 4) j)
theorem X_fb_01 {mem : ja_M} {x : Nat} {c : Int} : X_fb mem x c = 0 ∨ X_fb mem x c = 1 := by
  unfold X_fb ja_b
  split
  · split <;> omega
  · split
    · split <;> omega
    · split <;> omega
theorem X_ex_o {mem : ja_M} {x q : Nat} {p : Int} (h : q ≠ x) : X_ex mem x p q = mem q := by
  unfold X_ex
  rw [ja_up_row h, ja_up_row h, ja_up_row h]
theorem X_ex_j {mem : ja_M} {x j : Nat} {p : Int} (h : j ≠ 2 ∧ j ≠ 3 ∧ j ≠ 4) : X_ex mem x p x j = mem x j := by
  unfold X_ex
  rw [ja_up_j h.2.2, ja_up_j h.2.1, ja_up_j h.1]
theorem X_ex_2 {mem : ja_M} {x : Nat} {p : Int} : X_ex mem x p x 2 = p ∧ X_ex mem x p x 3 = 0 ∧ X_ex mem x p x 4 = 0 := by
  unfold X_ex
  refine ⟨?_, ?_, ?_⟩
  · rw [ja_up_j (by omega), ja_up_j (by omega), ja_up_s]
  · rw [ja_up_j (by omega), ja_up_s]
  · rw [ja_up_s]
theorem X_ex_XO {mem : ja_M} {x : Nat} {p : Int} (hp : 0 ≤ p ∧ p ≤ 4) (h : (0 ≤ mem x 5 ∧ mem x 5 ≤ 2) ∧ (0 ≤ mem x 6 ∧ mem x 6 ≤ 9999) ∧ (0 ≤ mem x 7 ∧ mem x 7 ≤ 9999)) : ja_XO (X_ex mem x p) x := by
  obtain ⟨e2, e3, e4⟩ := @X_ex_2 mem x p
  unfold ja_XO
  rw [e2, e3, e4, X_ex_j ⟨by omega, by omega, by omega⟩, X_ex_j ⟨by omega, by omega, by omega⟩, X_ex_j ⟨by omega, by omega, by omega⟩]
  exact ⟨hp, by omega, h.1, h.2.1, h.2.2⟩
theorem A_add_AO {mem : ja_M} {o : Nat} {k m i t : Int} (h : ja_AO mem o) (hk : 0 ≤ k ∧ k ≤ 2) (hm : ja_n4 m) (hi : ja_n4 i) (ht : ja_n4 t) : ja_AO (A_add mem o k m i t) o := by
  obtain ⟨h0, h1, h2, h3, h4⟩ := h
  refine ⟨A_add_sz h0, fun j => ?_, fun j => ?_, fun j => ?_, fun j => ?_⟩
  · unfold A_add
    split
    · rw [ja_up_a (by omega), ja_up_a (by omega), ja_up_a (by omega), ja_up_a (by omega)]
      by_cases hj : j = (mem o 4).toNat
      · subst hj
        rw [ja_up_s]
        exact hk
      · rw [ja_up_j hj]
        exact h1 j
    · exact h1 j
  · unfold A_add
    split
    · rw [ja_up_a (by omega), ja_up_a (by omega), ja_up_a (by omega)]
      by_cases hj : j = (mem o 4).toNat
      · subst hj
        rw [ja_up_s]
        exact hm
      · rw [ja_up_j hj, ja_up_a (by omega)]
        exact h2 j
    · exact h2 j
  · unfold A_add
    split
    · rw [ja_up_a (by omega), ja_up_a (by omega)]
      by_cases hj : j = (mem o 4).toNat
      · subst hj
        rw [ja_up_s]
        exact hi
      · rw [ja_up_j hj, ja_up_a (by omega), ja_up_a (by omega)]
        exact h3 j
    · exact h3 j
  · unfold A_add
    split
    · rw [ja_up_a (by omega)]
      by_cases hj : j = (mem o 4).toNat
      · subst hj
        rw [ja_up_s]
        exact ht
      · rw [ja_up_j hj, ja_up_a (by omega), ja_up_a (by omega), ja_up_a (by omega)]
        exact h4 j
    · exact h4 j
theorem ja_AO_c {mem mem' : ja_M} {o : Nat} (h : ∀ q, o ≤ q → q < o + 5 → mem' q = mem q) (hO : ja_AO mem o) : ja_AO mem' o := by
  unfold ja_AO
  rw [h o (by omega) (by omega), h (o + 1) (by omega) (by omega), h (o + 2) (by omega) (by omega), h (o + 3) (by omega) (by omega), h (o + 4) (by omega) (by omega)]
  exact hO
theorem X_en_XO {mem : ja_M} {x o : Nat} (h : ja_XO mem x) (hne : ¬ mem x 2 = 0) (hxo : x < o ∨ o + 5 ≤ x) : ja_XO (X_en mem x o) x := by
  obtain ⟨h2, h4, h5, h6, h7⟩ := h
  unfold X_en
  split
  · refine X_ex_XO (by omega) ?_
    rw [ja_up_j (by omega), ja_up_s, ja_up_j (by omega)]
    exact ⟨h5, ⟨by omega, by omega⟩, h7⟩
  · split
    · refine X_ex_XO (by omega) ?_
      rw [ja_up_j (by omega), ja_up_j (by omega), ja_up_s]
      exact ⟨h5, h6, ⟨by omega, by omega⟩⟩
    · split
      · refine X_ex_XO (by omega) ?_
        rw [A_add_o (by omega)]
        exact ⟨h5, h6, h7⟩
      · refine X_ex_XO (by omega) ?_
        rw [ja_up_j (by omega), ja_up_s, ja_up_j (by omega)]
        exact ⟨h5, ⟨by omega, by omega⟩, h7⟩
theorem X_en_AO {mem : ja_M} {x o : Nat} (h : ja_XO mem x) (hne : ¬ mem x 2 = 0) (hA : ja_AO mem o) (hxo : x < o ∨ o + 5 ≤ x) : ja_AO (X_en mem x o) o := by
  obtain ⟨h2, h4, h5, h6, h7⟩ := h
  unfold X_en
  split
  · exact ja_AO_c (fun q q1 q2 => by rw [X_ex_o (by omega), ja_up_row (by omega)]) hA
  · split
    · exact ja_AO_c (fun q q1 q2 => by rw [X_ex_o (by omega), ja_up_row (by omega)]) hA
    · split
      · exact ja_AO_c (fun q q1 q2 => by rw [X_ex_o (by omega)]) (A_add_AO hA h5 h6 h7 ⟨by omega, by omega⟩)
      · exact ja_AO_c (fun q q1 q2 => by rw [X_ex_o (by omega), ja_up_row (by omega)]) hA
theorem X_en_o {mem : ja_M} {x o q : Nat} (hq : q ≠ x ∧ (q < o ∨ o + 5 ≤ q)) : X_en mem x o q = mem q := by
  unfold X_en
  split
  · rw [X_ex_o hq.1, ja_up_row hq.1]
  · split
    · rw [X_ex_o hq.1, ja_up_row hq.1]
    · split
      · rw [X_ex_o hq.1, A_add_o hq.2]
      · rw [X_ex_o hq.1, ja_up_row hq.1]
theorem X_be_XO {mem : ja_M} {x : Nat} {c : Int} (h : ja_XO mem x) : ja_XO (X_be mem x c) x := by
  obtain ⟨h2, h4, h5, h6, h7⟩ := h
  unfold X_be
  split
  · refine X_ex_XO (by omega) ?_
    rw [ja_up_s, ja_up_j (by omega), ja_up_j (by omega)]
    exact ⟨by omega, h6, h7⟩
  · split
    · refine X_ex_XO (by omega) ?_
      rw [ja_up_s, ja_up_j (by omega), ja_up_j (by omega)]
      exact ⟨by omega, h6, h7⟩
    · split
      · refine X_ex_XO (by omega) ?_
        rw [ja_up_s, ja_up_j (by omega), ja_up_j (by omega)]
        exact ⟨by omega, h6, h7⟩
      · exact ⟨h2, h4, h5, h6, h7⟩
theorem X_be_o {mem : ja_M} {x q : Nat} {c : Int} (h : q ≠ x) : X_be mem x c q = mem q := by
  unfold X_be
  split
  · rw [X_ex_o h, ja_up_row h]
  · split
    · rw [X_ex_o h, ja_up_row h]
    · split
      · rw [X_ex_o h, ja_up_row h]
      · rfl
theorem X_ex_1 {mem : ja_M} {x : Nat} {p : Int} : X_ex mem x p x 1 = mem x 1 := X_ex_j ⟨by omega, by omega, by omega⟩
theorem X_fm_XO {mem : ja_M} {x o : Nat} {c : Int} (h : ja_XO mem x) (hxo : x < o ∨ o + 5 ≤ x) (hb : ¬ X_fb mem x c = 0) : ja_XO (X_fm mem x o c) x := by
  unfold X_fm
  unfold X_fb ja_b at hb
  split
  · exact X_be_XO h
  · rename_i h2
    rw [if_neg h2] at hb
    split
    · rename_i hc
      rw [if_pos hc] at hb
      obtain ⟨h2, h4, h5, h6, h7⟩ := h
      have hd : mem x 3 + 1 ≤ 4 := by
        by_cases q : mem x 3 + 1 ≤ 4
        · exact q
        · rw [if_neg q] at hb
          exact absurd rfl hb
      unfold ja_XO
      rw [ja_up_j (show (2 : Nat) ≠ 3 by omega), ja_up_j (show (2 : Nat) ≠ 4 by omega), ja_up_s, ja_up_j (show (4 : Nat) ≠ 3 by omega), ja_up_s, ja_up_j (show (5 : Nat) ≠ 3 by omega), ja_up_j (show (5 : Nat) ≠ 4 by omega), ja_up_j (show (6 : Nat) ≠ 3 by omega), ja_up_j (show (6 : Nat) ≠ 4 by omega), ja_up_j (show (7 : Nat) ≠ 3 by omega), ja_up_j (show (7 : Nat) ≠ 4 by omega)]
      exact ⟨h2, by omega, h5, h6, h7⟩
    · split
      · exact h
      · exact X_en_XO h h2 hxo
theorem X_fm_AO {mem : ja_M} {x o : Nat} {c : Int} (h : ja_XO mem x) (hA : ja_AO mem o) (hxo : x < o ∨ o + 5 ≤ x) : ja_AO (X_fm mem x o c) o := by
  unfold X_fm
  split
  · exact ja_AO_c (fun q q1 q2 => X_be_o (by omega)) hA
  · rename_i h2
    split
    · exact ja_AO_c (fun q q1 q2 => by rw [ja_up_row (by omega), ja_up_row (by omega)]) hA
    · split
      · exact hA
      · exact X_en_AO h h2 hA hxo
theorem X_fm_o {mem : ja_M} {x o q : Nat} {c : Int} (hq : q ≠ x ∧ (q < o ∨ o + 5 ≤ q)) : X_fm mem x o c q = mem q := by
  unfold X_fm
  split
  · exact X_be_o hq.1
  · split
    · rw [ja_up_row hq.1, ja_up_row hq.1]
    · split
      · rfl
      · exact X_en_o hq
theorem X_fm_1 {mem : ja_M} {x o : Nat} {c : Int} (hxo : x < o ∨ o + 5 ≤ x) : X_fm mem x o c x 1 = mem x 1 := by
  unfold X_fm X_be X_en
  split
  · split
    · rw [X_ex_1, ja_up_j (by omega)]
    · split
      · rw [X_ex_1, ja_up_j (by omega)]
      · split
        · rw [X_ex_1, ja_up_j (by omega)]
        · rfl
  · split
    · rw [ja_up_j (by omega), ja_up_j (by omega)]
    · split
      · rfl
      · split
        · rw [X_ex_1, ja_up_j (by omega)]
        · split
          · rw [X_ex_1, ja_up_j (by omega)]
          · split
            · rw [X_ex_1, A_add_o (by omega)]
            · rw [X_ex_1, ja_up_j (by omega)]
