-- copies
def S_cp (mem : ja_M) (a o : Nat) : ja_M := ja_up (ja_up (ja_up (ja_up (ja_up (ja_up (ja_up (ja_up (ja_up mem a 0 (mem o 0)) a 1 (mem o 1)) a 2 (mem o 2)) a 3 (mem o 3)) a 4 (mem o 4)) a 5 (mem o 5)) a 6 (mem o 6)) a 7 (mem o 7)) a 8 (mem o 8)
def F_cpy (mem : ja_M) (f o : Nat) : ja_M := ja_cp (ja_cp (ja_cp mem (o + 1) (f + 1) 0 0 250) (o + 2) (f + 2) 0 0 250) (o + 3) (f + 3) 0 0 250
def R_c1 (mem : ja_M) (b o : Nat) : ja_M := S_cp mem (b + 1) (o + 1)
def R_c2 (mem : ja_M) (b o : Nat) : ja_M := F_cpy (R_c1 mem b o) (b + 2) (o + 2)
def R_c3 (mem : ja_M) (b o : Nat) : ja_M := T_cp (R_c2 mem b o) (b + 6) (o + 6)
def R_c4 (mem : ja_M) (b o : Nat) : ja_M := P_cp2 (R_c3 mem b o) (b + 9) (o + 9)
def R_c5 (mem : ja_M) (b o : Nat) : ja_M := C_cp (R_c4 mem b o) (b + 14) (o + 14)
def R_c6 (mem : ja_M) (b o : Nat) : ja_M := A_all (ja_up (R_c5 mem b o) (b + 15) 4 0) (b + 15) (o + 15) ((R_c5 mem b o) (o + 15) 4).toNat
def R_cp (mem : ja_M) (b o : Nat) : ja_M := ja_up (ja_up (ja_up (R_c6 mem b o) b 6 (R_c6 mem b o o 6)) b 7 (R_c6 mem b o o 7)) b 8 (R_c6 mem b o o 8)
theorem S_cp_o {mem : ja_M} {a o q : Nat} (h : q ≠ a) : S_cp mem a o q = mem q := by
  unfold S_cp
  rw [ja_up_row h, ja_up_row h, ja_up_row h, ja_up_row h, ja_up_row h, ja_up_row h, ja_up_row h, ja_up_row h, ja_up_row h]
theorem C_cp_o {mem : ja_M} {a o q : Nat} (h : q ≠ a) : C_cp mem a o q = mem q := by
  unfold C_cp
  rw [ja_up_row h, ja_up_row h, ja_up_row h, ja_up_row h, ja_up_row h, ja_up_row h, ja_up_row h, ja_up_row h, ja_up_row h]
theorem S_cp_s {mem : ja_M} {a o j : Nat} (h : j < 9) : S_cp mem a o a j = mem o j := by
  rcases (show j = 0 ∨ j = 1 ∨ j = 2 ∨ j = 3 ∨ j = 4 ∨ j = 5 ∨ j = 6 ∨ j = 7 ∨ j = 8 by omega) with rfl | rfl | rfl | rfl | rfl | rfl | rfl | rfl | rfl <;> simp [S_cp, ja_up]
theorem C_cp_s {mem : ja_M} {a o j : Nat} (h : j < 9) : C_cp mem a o a j = mem o j := by
  rcases (show j = 0 ∨ j = 1 ∨ j = 2 ∨ j = 3 ∨ j = 4 ∨ j = 5 ∨ j = 6 ∨ j = 7 ∨ j = 8 by omega) with rfl | rfl | rfl | rfl | rfl | rfl | rfl | rfl | rfl <;> simp [C_cp, ja_up]
theorem F_cpy_o {mem : ja_M} {f o q : Nat} (h : q < f + 1 ∨ f + 4 ≤ q) : F_cpy mem f o q = mem q := by
  unfold F_cpy
  rw [ja_cp_o _ (by omega), ja_cp_o _ (by omega), ja_cp_o _ (by omega)]
theorem T_cp_o {mem : ja_M} {a o q : Nat} (h : q < a ∨ a + 3 ≤ q) : T_cp mem a o q = mem q := by
  unfold T_cp
  rw [ja_up_row (by omega), ja_up_row (by omega), ja_cp_o _ (by omega), ja_cp_o _ (by omega)]
theorem P_cp2_o {mem : ja_M} {a o q : Nat} (h : q < a ∨ a + 4 ≤ q) : P_cp2 mem a o q = mem q := by
  unfold P_cp2
  rw [ja_up_row (by omega), ja_cp_o _ (by omega), ja_up_row (by omega), ja_cp_o _ (by omega), ja_up_row (by omega), ja_up_row (by omega), ja_cp_o _ (by omega)]
theorem ja_cp_P {mem : ja_M} {a0 a1 k : Nat} {P : Int → Prop} (h0 : ∀ j, P (mem a0 j)) (h1 : ∀ j, P (mem a1 j)) (j : Nat) : P (ja_cp mem a0 a1 0 0 k a1 j) := by
  unfold ja_cp
  split
  · exact h0 _
  · exact h1 j
theorem R_c5_o {mem : ja_M} {b o q : Nat} (h : q < b + 1 ∨ b + 15 ≤ q) : R_c5 mem b o q = mem q := by
  unfold R_c5 R_c4 R_c3 R_c2 R_c1
  rw [C_cp_o (by omega), P_cp2_o (by omega), T_cp_o (by omega), F_cpy_o (by omega), S_cp_o (by omega)]
theorem R_c6_o {mem : ja_M} {b o q : Nat} (h : q < b + 1 ∨ b + 20 ≤ q) : R_c6 mem b o q = mem q := by
  unfold R_c6
  rw [A_all_o (by omega), ja_up_row (by omega), R_c5_o (by omega)]
theorem R_cp_o {mem : ja_M} {b o q : Nat} (h : q < b ∨ b + 20 ≤ q) : R_cp mem b o q = mem q := by
  unfold R_cp
  rw [ja_up_row (by omega), ja_up_row (by omega), ja_up_row (by omega), R_c6_o (by omega)]
theorem A_all_AO {mem : ja_M} {a o : Nat} (h : ja_AO mem a) (ho : ja_AO mem o) : ∀ k, ja_AO (A_all mem a o k) a
  | 0 => h
  | k + 1 => A_add_AO (A_all_AO h ho k) (ho.2.1 k) (ho.2.2.1 k) (ho.2.2.2.1 k) (ho.2.2.2.2 k)
/-- a copy from the empty: the first k entries -/
theorem A_all_is {mem : ja_M} {a o : Nat} (h0 : mem a 4 = 0) (hao : a + 5 ≤ o ∨ o + 5 ≤ a) : ∀ k : Nat, k ≤ 24 → A_all mem a o k a 4 = k ∧ ∀ j, j < k → A_all mem a o k (a + 1) j = mem (o + 1) j ∧ A_all mem a o k (a + 2) j = mem (o + 2) j ∧ A_all mem a o k (a + 3) j = mem (o + 3) j ∧ A_all mem a o k (a + 4) j = mem (o + 4) j
  | 0, _ => ⟨h0, fun j hj => by omega⟩
  | k + 1, hk => by
    obtain ⟨ih, ij⟩ := A_all_is h0 hao k (by omega)
    have hlt : A_all mem a o k a 4 < 24 := by omega
    have hkn : (A_all mem a o k a 4).toNat = k := by omega
    simp only [A_all]
    unfold A_add
    rw [if_pos hlt, hkn]
    refine ⟨by rw [ja_up_s, ih]; omega, fun j hj => ?_⟩
    by_cases hjk : j = k
    · subst hjk
      refine ⟨?_, ?_, ?_, ?_⟩
      · rw [ja_up_a (by omega), ja_up_a (by omega), ja_up_a (by omega), ja_up_a (by omega), ja_up_s]
      · rw [ja_up_a (by omega), ja_up_a (by omega), ja_up_a (by omega), ja_up_s]
      · rw [ja_up_a (by omega), ja_up_a (by omega), ja_up_s]
      · rw [ja_up_a (by omega), ja_up_s]
    · obtain ⟨e1, e2, e3, e4⟩ := ij j (by omega)
      refine ⟨?_, ?_, ?_, ?_⟩
      · rw [ja_up_a (by omega), ja_up_a (by omega), ja_up_a (by omega), ja_up_a (by omega), ja_up_j hjk]
        exact e1
      · rw [ja_up_a (by omega), ja_up_a (by omega), ja_up_a (by omega), ja_up_j hjk, ja_up_a (by omega)]
        exact e2
      · rw [ja_up_a (by omega), ja_up_a (by omega), ja_up_j hjk, ja_up_a (by omega), ja_up_a (by omega)]
        exact e3
      · rw [ja_up_a (by omega), ja_up_j hjk, ja_up_a (by omega), ja_up_a (by omega), ja_up_a (by omega)]
        exact e4
theorem R_cp_RO {mem : ja_M} {b o : Nat} {t t' : Int} (h : ja_RO mem o t) (hb : ja_RO mem b t') (hbo : b + 20 ≤ o ∨ o + 20 ≤ b) : ja_RO (R_cp mem b o) b t := by
  obtain ⟨g1, g2, g3, g4, g5, g6, g7, g8, g9, g10, g11, g12⟩ := h
  obtain ⟨f1, f2, f3, f4, f5, -⟩ := hb
  obtain ⟨p1, p2, p3, p4, p5, p6⟩ := g3
  obtain ⟨q1, q2, q3, q4, q5, q6⟩ := f3
  obtain ⟨t2, t3, t4, t5⟩ := g2
  obtain ⟨u2, u3, u4, u5⟩ := f2
  -- rows of the copy
  have hx : ∀ q, q ≠ b → q < b + 15 → R_cp mem b o q = R_c5 mem b o q := fun q a1 a2 => by
    unfold R_cp R_c6
    rw [ja_up_row a1, ja_up_row a1, ja_up_row a1, A_all_o (by omega), ja_up_row (by omega)]
  have r1 : R_cp mem b o (b + 1) = S_cp mem (b + 1) (o + 1) (b + 1) := by
    rw [hx _ (by omega) (by omega)]
    unfold R_c5 R_c4 R_c3 R_c2 R_c1
    rw [C_cp_o (by omega), P_cp2_o (by omega), T_cp_o (by omega), F_cpy_o (by omega)]
  have o2 : ∀ q, q ≠ b + 1 → (q < b + 3 ∨ b + 6 ≤ q) → R_c2 mem b o q = mem q := fun q a1 a2 => by
    unfold R_c2 R_c1
    rw [F_cpy_o (by omega), S_cp_o a1]
  have r6 : ∀ q, b + 6 ≤ q → q < b + 9 → R_cp mem b o q = R_c3 mem b o q := fun q a1 a2 => by
    rw [hx _ (by omega) (by omega)]
    unfold R_c5 R_c4
    rw [C_cp_o (by omega), P_cp2_o (by omega)]
  have o3 : ∀ q, (q < b + 1 ∨ b + 9 ≤ q) → R_c3 mem b o q = mem q := fun q a1 => by
    unfold R_c3
    rw [T_cp_o (by omega), o2 q (by omega) (by omega)]
  have r9 : ∀ q, b + 9 ≤ q → q < b + 14 → R_cp mem b o q = R_c4 mem b o q := fun q a1 a2 => by
    rw [hx _ (by omega) (by omega)]
    unfold R_c5
    rw [C_cp_o (by omega)]
  have o4 : ∀ q, (q < b + 1 ∨ b + 14 ≤ q) → R_c4 mem b o q = mem q := fun q a1 => by
    unfold R_c4
    rw [P_cp2_o (by omega), o3 q (by omega)]
  have c14 : ∀ j, j < 9 → R_cp mem b o (b + 14) j = mem (o + 14) j := fun j hj => by
    rw [hx _ (by omega) (by omega)]
    unfold R_c5
    rw [C_cp_s hj, o4 _ (by omega)]
  have s1 : ∀ j, j < 9 → R_cp mem b o (b + 1) j = mem (o + 1) j := fun j hj => by rw [r1, S_cp_s hj]
  have e4 : R_c4 mem b o (b + 9) 1 = mem (o + 9) 1 ∧ R_c4 mem b o (b + 9) 2 = mem (o + 9) 2 ∧ R_c4 mem b o (b + 9) 4 = mem (o + 9) 4 ∧ R_c4 mem b o (b + 9) 6 = mem (o + 9) 6 := by
    unfold R_c4 P_cp2
    rw [o3 (o + 9) (by omega)]
    refine ⟨?_, ?_, ?_, ?_⟩
    · rw [ja_up_j (by omega), ja_cp_o _ (by omega), ja_up_j (by omega), ja_cp_o _ (by omega), ja_up_j (by omega), ja_up_s]
    · rw [ja_up_j (by omega), ja_cp_o _ (by omega), ja_up_j (by omega), ja_cp_o _ (by omega), ja_up_s]
    · rw [ja_up_j (by omega), ja_cp_o _ (by omega), ja_up_s]
    · rw [ja_up_s]
  obtain ⟨k1, k2, k4, k6⟩ := e4
  have rb : ∀ j, (j = 6 ∨ j = 7 ∨ j = 8) → R_cp mem b o b j = mem o j := fun j hj => by
    unfold R_cp
    rw [R_c6_o (show o < b + 1 ∨ b + 20 ≤ o by omega)]
    rcases hj with rfl | rfl | rfl
    · rw [ja_up_j (by omega), ja_up_j (by omega), ja_up_s]
    · rw [ja_up_j (by omega), ja_up_s]
    · rw [ja_up_s]
  have ha : ∀ q, b + 15 ≤ q → R_cp mem b o q = R_c6 mem b o q := fun q a1 => by
    unfold R_cp
    rw [ja_up_row (by omega), ja_up_row (by omega), ja_up_row (by omega)]
  have m5 : ∀ q, q ≠ b + 15 → (q < b + 1 ∨ b + 15 ≤ q) → ja_up (R_c5 mem b o) (b + 15) 4 0 q = mem q := fun q a1 a2 => by rw [ja_up_row a1, R_c5_o (by omega)]
  have hsz : (R_c5 mem b o) (o + 15) 4 = mem (o + 15) 4 := by rw [R_c5_o (by omega)]
  have hzz := g4.1
  have hAb : ja_AO (ja_up (R_c5 mem b o) (b + 15) 4 0) (b + 15) := ⟨by rw [ja_up_s]; omega, fun j => by rw [m5 _ (by omega) (by omega)]; exact f4.2.1 j, fun j => by rw [m5 _ (by omega) (by omega)]; exact f4.2.2.1 j, fun j => by rw [m5 _ (by omega) (by omega)]; exact f4.2.2.2.1 j, fun j => by rw [m5 _ (by omega) (by omega)]; exact f4.2.2.2.2 j⟩
  have hAo : ja_AO (ja_up (R_c5 mem b o) (b + 15) 4 0) (o + 15) := ja_AO_c (fun q a1 a2 => m5 q (by omega) (by omega)) g4
  have hIs := A_all_is (mem := ja_up (R_c5 mem b o) (b + 15) 4 0) (a := b + 15) (o := o + 15) (by rw [ja_up_s]) (by omega) (mem (o + 15) 4).toNat (by omega)
  have hA6 : R_c6 mem b o = A_all (ja_up (R_c5 mem b o) (b + 15) 4 0) (b + 15) (o + 15) (mem (o + 15) 4).toNat := by
    unfold R_c6
    rw [hsz]
  obtain ⟨i4, ij⟩ := hIs
  refine ⟨?_, ⟨?_, ?_, fun j => ?_, fun j => ?_⟩, ⟨?_, ?_, ?_, fun j => ?_, fun j => ?_, fun j => ?_⟩, ?_, ?_, by rw [rb 6 (by omega)]; exact g6, by rw [rb 7 (by omega)]; exact g7, by rw [rb 8 (by omega)]; exact g8, ?_, ?_, ?_, ?_⟩
  · unfold ja_SO
    rw [s1 0 (by omega), s1 1 (by omega), s1 2 (by omega), s1 3 (by omega), s1 4 (by omega), s1 5 (by omega), s1 6 (by omega), s1 7 (by omega), s1 8 (by omega)]
    exact g1
  · rw [r6 _ (by omega) (by omega)]
    unfold R_c3 T_cp
    rw [ja_up_j (by omega), ja_up_s, o2 _ (by omega) (by omega)]
    exact t2
  · rw [r6 _ (by omega) (by omega)]
    unfold R_c3 T_cp
    rw [ja_up_s, o2 _ (by omega) (by omega)]
    exact t3
  · rw [r6 _ (by omega) (by omega)]
    unfold R_c3 T_cp
    rw [ja_up_a (by omega), ja_up_a (by omega), ja_cp_o _ (by omega)]
    exact ja_cp_P (P := ja_sm) (fun j => by rw [o2 _ (by omega) (by omega)]; exact t4 j) (fun j => by rw [o2 _ (by omega) (by omega)]; exact u4 j) j
  · rw [r6 _ (by omega) (by omega)]
    unfold R_c3 T_cp
    rw [ja_up_a (by omega), ja_up_a (by omega)]
    exact ja_cp_P (P := ja_sm) (fun j => by rw [ja_cp_o _ (by omega), o2 _ (by omega) (by omega)]; exact t5 j) (fun j => by rw [ja_cp_o _ (by omega), o2 _ (by omega) (by omega)]; exact u5 j) j
  · rw [r9 _ (by omega) (by omega), k1, k2]
    exact p1
  · rw [r9 _ (by omega) (by omega), k4]
    exact p2
  · rw [r9 _ (by omega) (by omega), k6]
    exact p3
  · rw [r9 _ (by omega) (by omega)]
    unfold R_c4 P_cp2
    rw [ja_up_a (by omega), ja_cp_o _ (by omega), ja_up_a (by omega), ja_cp_o _ (by omega), ja_up_a (by omega), ja_up_a (by omega)]
    exact ja_cp_P (P := ja_sp) (fun j => by rw [o3 _ (by omega)]; exact p4 j) (fun j => by rw [o3 _ (by omega)]; exact q4 j) j
  · rw [r9 _ (by omega) (by omega)]
    unfold R_c4 P_cp2
    rw [ja_up_a (by omega), ja_cp_o _ (by omega), ja_up_a (by omega)]
    exact ja_cp_P (P := ja_sp) (fun j => by rw [ja_up_a (by omega), ja_up_a (by omega), ja_cp_o _ (by omega), o3 _ (by omega)]; exact p5 j) (fun j => by rw [ja_up_a (by omega), ja_up_a (by omega), ja_cp_o _ (by omega), o3 _ (by omega)]; exact q5 j) j
  · rw [r9 _ (by omega) (by omega)]
    unfold R_c4 P_cp2
    rw [ja_up_a (by omega), ja_cp_o _ (by omega), ja_up_a (by omega), ja_cp_o _ (by omega), ja_up_a (by omega), ja_up_a (by omega), ja_cp_o _ (by omega), o3 _ (by omega)]
    exact q6 j
  · exact ja_AO_c (fun q a1 a2 => by rw [ha q (by omega), hA6]) (A_all_AO hAb hAo _)
  · intro j hj
    rw [ha _ (by omega), hA6, i4] at hj
    obtain ⟨e1, e2, e3, e4⟩ := ij j (by omega)
    rw [ha _ (by omega), ha _ (by omega), ha _ (by omega), hA6, e1, e2, e3, m5 _ (by omega) (by omega), m5 _ (by omega) (by omega), m5 _ (by omega) (by omega)]
    have e5 : ∀ r k i, ja_hasP (R_cp mem b o) (b + 1) r k i = ja_hasP mem (o + 1) r k i := fun r k i => by simp only [ja_hasP, ja_hasB, ja_cells, s1 3 (by omega), s1 4 (by omega)]
    rw [e5]
    exact g5 j (by omega)
  · rw [r9 _ (by omega) (by omega), k4, rb 6 (by omega)]
    exact g9
  · rw [c14 7 (by omega), r9 _ (by omega) (by omega), k6]
    exact g10
  · rw [c14 8 (by omega), r9 _ (by omega) (by omega), k6]
    exact g11
  · rw [c14 2 (by omega), r9 _ (by omega) (by omega), k6]
    exact g12
