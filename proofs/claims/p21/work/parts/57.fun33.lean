-- THE TWO READINGS OF A TEXT AGREE
section
variable {fc fr : Nat → Int} {x o n : Nat}
/-- but for the digits read -/
def X_sd (x : Nat) (m m' : ja_M) : Prop := ∀ q j, ¬ (q = x ∧ (j = 3 ∨ j = 4)) → m' q j = m q j
theorem X_sd.rf {m : ja_M} : X_sd x m m := fun _ _ _ => rfl
theorem X_dig (hf : ∀ j : Nat, j < n → fc j = fr j) : ∀ (k p : Nat) (z : Int) (m : ja_M), p ≤ n → ¬ m x 2 = 0 → m x 3 + k = 4 → 0 ≤ m x 3 → (m x 3 = 0 → z = -1 ∧ m x 4 = 0) → (¬ m x 3 = 0 → 0 ≤ z ∧ m x 4 = z) → ∃ (m' : ja_M) (p' : Nat), X_sd x m m' ∧ (N_nm fr n k p z).2 = (p' : Int) ∧ p ≤ p' ∧ p' ≤ n ∧ X_lp fc x o n (n - p) p m = X_lp fc x o n (n - p') p' m' ∧ (m' x 3 = 0 → (N_nm fr n k p z).1 = -1) ∧ (¬ m' x 3 = 0 → 0 ≤ (N_nm fr n k p z).1 ∧ m' x 4 = (N_nm fr n k p z).1) ∧ (0 ≤ m' x 3) ∧ (m' x 3 = 4 ∨ ¬ (48 ≤ N_he fr n p' ∧ N_he fr n p' ≤ 57)) ∧ m' x 3 ≤ 4
  | 0, p, z, m, hp, h2, h3, h30, ha, hb => ⟨m, p, X_sd.rf, rfl, Nat.le_refl _, hp, rfl, fun q => (ha q).1, fun q => ⟨(hb q).1, (hb q).2⟩, h30, Or.inl (by omega), by omega⟩
  | k + 1, p, z, m, hp, h2, h3, h30, ha, hb => by
    simp only [N_nm]
    by_cases hd : 48 ≤ N_he fr n p ∧ N_he fr n p ≤ 57
    · rw [if_pos hd]
      have hlt : (p : Int) < n := N_he_lt (f := fr) (by omega)
      have hc : N_he fr n p = fc p := by
        unfold N_he
        rw [if_pos hlt, hf p (by omega)]
        rfl
      have hc2 : 48 ≤ fc p ∧ fc p ≤ 57 := by rw [← hc]; exact hd
      have e1 : X_fm m x o (fc p) = ja_up (ja_up m x 4 (10 * m x 4 + fc p - 48)) x 3 (m x 3 + 1) := by rw [X_fm, if_neg h2, if_pos hc2]
      have e2 : X_fb m x (fc p) = 1 := by
        rw [X_fb, if_neg h2, if_pos hc2]
        exact if_pos (by omega)
      have e3 : X_lp fc x o n (n - p) p m = X_lp fc x o n (n - (p + 1)) (p + 1) (X_fm m x o (fc p)) := by
        rw [show n - p = (n - (p + 1)) + 1 by omega]
        simp only [X_lp]
        rw [e2, if_neg (by decide)]
      have f3 : X_fm m x o (fc p) x 3 = m x 3 + 1 := by rw [e1, ja_up_s]
      have f4 : X_fm m x o (fc p) x 4 = 10 * m x 4 + fc p - 48 := by rw [e1, ja_up_j (by omega), ja_up_s]
      have f2 : X_fm m x o (fc p) x 2 = m x 2 := by rw [e1, ja_up_j (by omega), ja_up_j (by omega)]
      have hz : (if z < 0 then 0 else 10 * z) = 10 * m x 4 := by
        by_cases q : m x 3 = 0
        · obtain ⟨q1, q2⟩ := ha q
          rw [if_pos (by omega), q2]
          rfl
        · obtain ⟨q1, q2⟩ := hb q
          rw [if_neg (by omega), q2]
      have h40 : 0 ≤ m x 4 := by
        by_cases q : m x 3 = 0
        · rw [(ha q).2]
          omega
        · have := hb q
          omega
      rw [hz, hc]
      obtain ⟨m', p', g1, g2, g3, g4, g5, g6, g7, g8, g9, g10⟩ := X_dig hf k (p + 1) (10 * m x 4 + fc p - 48) (X_fm m x o (fc p)) (by omega) (by rw [f2]; exact h2) (by rw [f3]; omega) (by rw [f3]; omega) (fun q => by rw [f3] at q; omega) (fun q => ⟨by omega, f4⟩)
      refine ⟨m', p', fun q j hq => ?_, ?_, by omega, g4, by rw [e3]; exact g5, ?_, ?_, g8, g9, g10⟩
      · rw [g1 q j hq, e1, ja_up_x (by omega), ja_up_x (by omega)]
      · rw [show ((p : Int) + 1) = ((p + 1 : Nat) : Int) by omega]
        exact g2
      · rw [show ((p : Int) + 1) = ((p + 1 : Nat) : Int) by omega]
        exact g6
      · rw [show ((p : Int) + 1) = ((p + 1 : Nat) : Int) by omega]
        exact g7
    · rw [if_neg hd]
      exact ⟨m, p, X_sd.rf, rfl, Nat.le_refl _, hp, rfl, fun q => (ha q).1, fun q => ⟨(hb q).1, (hb q).2⟩, h30, Or.inr hd, by omega⟩
/-- a number and the character behind it -/
theorem X_num (hf : ∀ j : Nat, j < n → fc j = fr j) {p : Nat} {m : ja_M} (hp : p ≤ n) (h2 : ¬ m x 2 = 0) (h3 : m x 3 = 0) (h4 : m x 4 = 0) : (((N_nm fr n 4 p (-1)).1 < 0 ∨ ¬ N_he fr n (N_nm fr n 4 p (-1)).2 = X_eon m x) → (X_lp fc x o n (n - p) p m).1 = (N_nm fr n 4 p (-1)).2) ∧ (¬ (N_nm fr n 4 p (-1)).1 < 0 → N_he fr n (N_nm fr n 4 p (-1)).2 = X_eon m x → ∃ (m' : ja_M) (p' : Nat), X_sd x m m' ∧ m' x 4 = (N_nm fr n 4 p (-1)).1 ∧ (N_nm fr n 4 p (-1)).2 = (p' : Int) ∧ p ≤ p' ∧ p' < n ∧ X_lp fc x o n (n - p) p m = X_lp fc x o n (n - (p' + 1)) (p' + 1) (X_en m' x o)) := by
  obtain ⟨m', p', g1, g2, g3, g4, g5, g6, g7, g8, g9, g10⟩ := X_dig (o := o) hf 4 p (-1) m hp h2 (by omega) (by omega) (fun _ => ⟨rfl, h4⟩) (fun q => absurd h3 q)
  have e2 : m' x 2 = m x 2 := g1 x 2 (by omega)
  have hn2 : ¬ m' x 2 = 0 := by rw [e2]; exact h2
  have eon : X_eon m' x = X_eon m x := by
    unfold X_eon
    rw [e2]
  have heon : X_eon m x = 46 ∨ X_eon m x = 59 ∨ X_eon m x = 64 := by
    unfold X_eon
    split
    · exact Or.inl rfl
    · split
      · exact Or.inr (Or.inl rfl)
      · exact Or.inr (Or.inr rfl)
  rw [g2]
  have hz : (N_nm fr n 4 p (-1)).1 < 0 ↔ m' x 3 = 0 := by
    constructor
    · intro q
      by_cases r : m' x 3 = 0
      · exact r
      · have := (g7 r).1
        omega
    · intro q
      have := g6 q
      omega
  refine ⟨fun hq => ?_, fun hz1 hh => ?_⟩
  · rw [g5]
    by_cases hpn : p' = n
    · subst hpn
      rw [Nat.sub_self]
      show (if m' x 2 = 0 then (-1004 : Int) else (p' : Int)) = _
      rw [if_neg hn2]
    · have hlt : p' < n := by omega
      have hc : N_he fr n p' = fc p' := by
        unfold N_he
        rw [if_pos (by omega), hf p' hlt]
        rfl
      have hb0 : X_fb m' x (fc p') = 0 := by
        rw [X_fb, if_neg hn2]
        by_cases hd : 48 ≤ fc p' ∧ fc p' ≤ 57
        · rw [if_pos hd]
          refine if_neg ?_
          rcases g9 with r | r
          · omega
          · rw [hc] at r
            exact absurd hd r
        · rw [if_neg hd]
          refine if_pos ?_
          rcases hq with r | r
          · exact Or.inl (hz.mp r)
          · rw [hc] at r
            exact Or.inr (by rw [eon]; exact r)
      rw [show n - p' = (n - (p' + 1)) + 1 by omega]
      simp only [X_lp]
      rw [hb0, if_pos rfl]
  · have hlt : (p' : Int) < n := N_he_lt (f := fr) (by omega)
    have hc : N_he fr n p' = fc p' := by
      unfold N_he
      rw [if_pos hlt, hf p' (by omega)]
      rfl
    have hm3 : ¬ m' x 3 = 0 := fun q => hz1 (hz.mpr q)
    have hcc : ¬ (48 ≤ fc p' ∧ fc p' ≤ 57) := by
      rw [← hc, hh]
      omega
    have hor : ¬ (m' x 3 = 0 ∨ ¬ fc p' = X_eon m' x) := by
      intro q
      rcases q with q | q
      · exact hm3 q
      · exact q (by rw [eon, ← hh, hc])
    refine ⟨m', p', g1, (g7 hm3).2, rfl, g3, by omega, ?_⟩
    rw [g5, show n - p' = (n - (p' + 1)) + 1 by omega]
    simp only [X_lp]
    rw [X_fb, if_neg hn2, if_neg hcc, if_neg hor, if_neg (by decide), X_fm, if_neg hn2, if_neg hcc, if_neg hor]
/-- entries of both -/
def X_te (o : Nat) (m : ja_M) (T : Nat → Int) (tl : Int) : Prop := ∀ i : Nat, (i : Int) < tl → m (o + 1) i = T (4 * i) ∧ m (o + 2) i = T (4 * i + 1) ∧ (¬ T (4 * i) = 0 → m (o + 3) i = T (4 * i + 2)) ∧ m (o + 4) i = T (4 * i + 3)
/-- the reading is between entries, tl of them are read -/
def X_rd (x o : Nat) (m : ja_M) (T : Nat → Int) (tl : Int) : Prop := m x 2 = 0 ∧ m o 4 = tl ∧ X_te o m T tl
theorem X_ex_n {m : ja_M} {p : Int} {q j : Nat} (h : ¬ (q = x ∧ (j = 2 ∨ j = 3 ∨ j = 4))) : X_ex m x p q j = m q j := by
  unfold X_ex
  rw [ja_up_x (by omega), ja_up_x (by omega), ja_up_x (by omega)]
/-- what follows a place, against what the reference read there -/
def X_cc (fc : Nat → Int) (x o n p : Nat) (m : ja_M) (E : N_E) : Prop := (E.1 = 0 → (X_lp fc x o n (n - p) p m).1 = E.2.1) ∧ (E.1 = 1 → ∃ (m' : ja_M) (p' : Nat), E.2.1 = (p' : Int) ∧ p' ≤ n ∧ X_lp fc x o n (n - p) p m = X_lp fc x o n (n - p') p' m' ∧ X_rd x o m' E.2.2.2 E.2.2.1)
theorem X_cc_e {p q : Nat} {m m1 : ja_M} {E : N_E} (e : X_lp fc x o n (n - p) p m = X_lp fc x o n (n - q) q m1) (h : X_cc fc x o n q m1 E) : X_cc fc x o n p m E := by
  unfold X_cc
  rw [e]
  exact h
theorem X_cc_0 {p : Nat} {m : ja_M} {q tl : Int} {T : Nat → Int} (h : (X_lp fc x o n (n - p) p m).1 = q) : X_cc fc x o n p m (0, q, tl, T) := ⟨fun _ => h, fun q => absurd (show (0 : Int) = 1 from q) (by decide)⟩
/-- the last number of an entry, and what follows -/
theorem X_last (hf : ∀ j : Nat, j < n → fc j = fr j) (hxo : x < o ∨ o + 5 ≤ x) (hn : n ≤ 120) {p : Nat} {tl : Int} {T : Nat → Int} {m : ja_M} (hp : p ≤ n) (h2 : m x 2 = 4) (h3 : m x 3 = 0) (h4 : m x 4 = 0) (ho : m o 4 = tl) (h0 : 0 ≤ tl ∧ tl < 24) (ht : X_te o m T tl) (k5 : m x 5 = T (4 * tl).toNat) (k6 : m x 6 = T (4 * tl + 1).toNat) (k7 : ¬ T (4 * tl).toNat = 0 → m x 7 = T (4 * tl + 2).toNat) : X_cc fc x o n p m (N_e3 fr n p tl T) := by
  obtain ⟨a1, a2⟩ := X_num (o := o) hf hp (by omega : ¬ m x 2 = 0) h3 h4
  have eon : X_eon m x = 59 := by
    unfold X_eon
    rw [h2]
    rfl
  rw [eon] at a1 a2
  unfold N_e3 X_cc
  by_cases hz : (N_nm fr n 4 p (-1)).1 < 0
  · rw [if_pos hz]
    exact ⟨fun _ => a1 (Or.inl hz), fun q => by simp at q⟩
  · rw [if_neg hz]
    dsimp only
    by_cases hh : N_he fr n (N_nm fr n 4 p (-1)).2 = 59
    · have hb : ja_b (N_he fr n (N_nm fr n 4 p (-1)).2 = 59) = 1 := if_pos hh
      rw [hb]
      refine ⟨fun q => by omega, fun _ => ?_⟩
      obtain ⟨m', p', g1, g2, g3, g4, g5, g6⟩ := a2 hz hh
      clear a1 a2
      have s2 : m' x 2 = 4 := (g1 x 2 (by omega)).trans h2
      have so : ∀ c j, c < 5 → m' (o + c) j = m (o + c) j := fun c j hc => g1 (o + c) j (by omega)
      have o4 : m' o 4 = tl := (so 0 4 (by omega)).trans ho
      have e1 : X_en m' x o = X_ex (A_add m' o (m' x 5) (m' x 6) (m' x 7) (m' x 4)) x 0 := by
        rw [X_en, if_neg (by omega), if_neg (by omega), if_pos s2]
      have hA : A_add m' o (m' x 5) (m' x 6) (m' x 7) (m' x 4) = ja_up (ja_up (ja_up (ja_up (ja_up m' (o + 1) (m' o 4).toNat (m' x 5)) (o + 2) (m' o 4).toNat (m' x 6)) (o + 3) (m' o 4).toNat (m' x 7)) (o + 4) (m' o 4).toNat (m' x 4)) o 4 (m' o 4 + 1) := by
        rw [A_add, if_pos (by omega)]
      refine ⟨X_en m' x o, p' + 1, by rw [g3]; omega, by omega, g6, ?_, ?_, ?_⟩
      · rw [e1]
        exact X_ex_2.1
      · rw [e1, X_ex_n (by omega), hA, ja_up_s, o4]
      · intro i hi
        have n5 : m' x 5 = m x 5 := g1 x 5 (by omega)
        have n6 : m' x 6 = m x 6 := g1 x 6 (by omega)
        have n7 : m' x 7 = m x 7 := g1 x 7 (by omega)
        rw [e1, X_ex_n (by omega), X_ex_n (by omega), X_ex_n (by omega), X_ex_n (by omega), hA, o4]
        by_cases hit : (i : Int) = tl
        · have ht2 : tl.toNat = i := by omega
          rw [ht2]
          have j1 : (4 * tl).toNat = 4 * i := by omega
          have j2 : (4 * tl + 1).toNat = 4 * i + 1 := by omega
          have j3 : (4 * tl + 2).toNat = 4 * i + 2 := by omega
          have j4 : (4 * tl + 3).toNat = 4 * i + 3 := by omega
          rw [j1] at k5 k7
          rw [j2] at k6
          rw [j3] at k7
          rw [j4, ja_rs_n (show 4 * i ≠ 4 * i + 3 by omega), ja_rs_n (show 4 * i + 1 ≠ 4 * i + 3 by omega), ja_rs_n (show 4 * i + 2 ≠ 4 * i + 3 by omega), ja_rs_s]
          refine ⟨?_, ?_, fun q => ?_, ?_⟩
          · rw [ja_up_a (by omega), ja_up_a (by omega), ja_up_a (by omega), ja_up_a (by omega), ja_up_s, n5, k5]
          · rw [ja_up_a (by omega), ja_up_a (by omega), ja_up_a (by omega), ja_up_s, n6, k6]
          · rw [ja_up_a (by omega), ja_up_a (by omega), ja_up_s, n7, k7 q]
          · rw [ja_up_a (by omega), ja_up_s, g2]
        · have hlt : (i : Int) < tl := by omega
          obtain ⟨t1, t2, t3, t4⟩ := ht i hlt
          rw [ja_rs_n (show 4 * i ≠ (4 * tl + 3).toNat by omega), ja_rs_n (show 4 * i + 1 ≠ (4 * tl + 3).toNat by omega), ja_rs_n (show 4 * i + 2 ≠ (4 * tl + 3).toNat by omega), ja_rs_n (show 4 * i + 3 ≠ (4 * tl + 3).toNat by omega)]
          refine ⟨?_, ?_, fun q => ?_, ?_⟩
          · rw [ja_up_x (by omega), ja_up_x (by omega), ja_up_x (by omega), ja_up_x (by omega), ja_up_x (by omega), so 1 i (by omega), t1]
          · rw [ja_up_x (by omega), ja_up_x (by omega), ja_up_x (by omega), ja_up_x (by omega), ja_up_x (by omega), so 2 i (by omega), t2]
          · rw [ja_up_x (by omega), ja_up_x (by omega), ja_up_x (by omega), ja_up_x (by omega), ja_up_x (by omega), so 3 i (by omega), t3 q]
          · rw [ja_up_x (by omega), ja_up_x (by omega), ja_up_x (by omega), ja_up_x (by omega), ja_up_x (by omega), so 4 i (by omega), t4]
    · have hb : ja_b (N_he fr n (N_nm fr n 4 p (-1)).2 = 59) = 0 := if_neg hh
      rw [hb]
      exact ⟨fun _ => by rw [Int.add_zero]; exact a1 (Or.inr hh), fun q => by omega⟩
/-- what a part of an entry leaves alone -/
theorem X_te_c {m m' : ja_M} {T : Nat → Int} {tl : Int} (h : ∀ c j, 1 ≤ c → c ≤ 4 → m' (o + c) j = m (o + c) j) (ht : X_te o m T tl) : X_te o m' T tl := fun i hi => by
  rw [h 1 i (by omega) (by omega), h 2 i (by omega) (by omega), h 3 i (by omega) (by omega), h 4 i (by omega) (by omega)]
  exact ht i hi
theorem X_te_T {m : ja_M} {T T' : Nat → Int} {tl : Int} (h : ∀ j : Nat, (j : Int) < 4 * tl → T' j = T j) (ht : X_te o m T tl) : X_te o m T' tl := fun i hi => by
  rw [h (4 * i) (by omega), h (4 * i + 1) (by omega), h (4 * i + 2) (by omega), h (4 * i + 3) (by omega)]
  exact ht i hi
theorem N_et_v {T : Nat → Int} {tl e a : Int} (h0 : 0 ≤ tl) : N_et T tl e a (4 * tl).toNat = e ∧ N_et T tl e a (4 * tl + 1).toNat = a ∧ N_et T tl e a (4 * tl + 2).toNat = 0 ∧ ∀ j : Nat, (j : Int) < 4 * tl → N_et T tl e a j = T j := by
  unfold N_et
  refine ⟨?_, ?_, ?_, fun j hj => ?_⟩
  · rw [ja_rs_n (show (4 * tl).toNat ≠ (4 * tl + 2).toNat by omega), ja_rs_n (show (4 * tl).toNat ≠ (4 * tl + 1).toNat by omega), ja_rs_s]
  · rw [ja_rs_n (show (4 * tl + 1).toNat ≠ (4 * tl + 2).toNat by omega), ja_rs_s]
  · rw [ja_rs_s]
  · rw [ja_rs_n (show j ≠ (4 * tl + 2).toNat by omega), ja_rs_n (show j ≠ (4 * tl + 1).toNat by omega), ja_rs_n (show j ≠ (4 * tl).toNat by omega)]
/-- a number with the time behind it -/
theorem X_mid (hf : ∀ j : Nat, j < n → fc j = fr j) (hxo : x < o ∨ o + 5 ≤ x) (hn : n ≤ 120) {p : Nat} {tl : Int} {T : Nat → Int} {m : ja_M} (hp : p ≤ n) (h2 : m x 2 = 1 ∨ m x 2 = 3) (h3 : m x 3 = 0) (h4 : m x 4 = 0) (ho : m o 4 = tl) (h0 : 0 ≤ tl ∧ tl < 24) (ht : X_te o m T tl) (k5 : m x 5 = T (4 * tl).toNat) (k1 : m x 2 = 1 → T (4 * tl).toNat = 0 ∧ T (4 * tl + 1).toNat = (N_nm fr n 4 p (-1)).1 ∧ 0 ≤ (N_nm fr n 4 p (-1)).1 ∧ T (4 * tl + 2).toNat = 0) (k3 : m x 2 = 3 → m x 6 = T (4 * tl + 1).toNat ∧ T (4 * tl + 2).toNat = (N_nm fr n 4 p (-1)).1) : X_cc fc x o n p m (N_e2 fr n (N_nm fr n 4 p (-1)).2 tl T) := by
  have hm2 : ¬ m x 2 = 0 := by omega
  obtain ⟨a1, a2⟩ := X_num (o := o) hf hp hm2 h3 h4
  have eon : X_eon m x = 64 := by
    unfold X_eon
    rw [if_neg (by omega), if_neg (by omega)]
  rw [eon] at a1 a2
  unfold N_e2
  by_cases hz : T (4 * tl + 2).toNat < 0
  · rw [if_pos hz]
    refine X_cc_0 (a1 (Or.inl ?_))
    rcases h2 with q | q
    · have := (k1 q).2.2.2
      omega
    · have := (k3 q).2
      omega
  · rw [if_neg hz]
    have hz1 : ¬ (N_nm fr n 4 p (-1)).1 < 0 := by
      rcases h2 with q | q
      · have := (k1 q).2.2.1
        omega
      · have := (k3 q).2
        omega
    by_cases hh : N_he fr n (N_nm fr n 4 p (-1)).2 = 64
    · rw [if_pos hh]
      obtain ⟨m', p', g1, g2, g3, g4, g5, g6⟩ := a2 hz1 hh
      clear a1 a2
      rw [g3, show ((p' : Int) + 1) = ((p' + 1 : Nat) : Int) by omega]
      refine X_cc_e g6 ?_
      have s2 : m' x 2 = m x 2 := g1 x 2 (by omega)
      have s5 : m' x 5 = m x 5 := g1 x 5 (by omega)
      have s6 : m' x 6 = m x 6 := g1 x 6 (by omega)
      have so : ∀ c j, c < 5 → m' (o + c) j = m (o + c) j := fun c j hc => g1 (o + c) j (by omega)
      have o4 : m' o 4 = tl := (so 0 4 (by omega)).trans ho
      rcases h2 with q | q
      · obtain ⟨t0, t1, t2, t3⟩ := k1 q
        have e1 : X_en m' x o = X_ex (ja_up m' x 6 (m' x 4)) x 4 := by
          rw [X_en, if_neg (by omega), if_neg (by omega), if_neg (by omega)]
        rw [e1]
        refine X_last hf hxo hn (by omega) X_ex_2.1 X_ex_2.2.1 X_ex_2.2.2 ?_ h0 ?_ ?_ ?_ (fun r => absurd t0 r)
        · rw [X_ex_n (by omega), ja_up_x (by omega)]
          exact o4
        · exact X_te_c (fun c j c1 c2 => by rw [X_ex_n (by omega), ja_up_x (by omega)]; exact so c j (by omega)) ht
        · rw [X_ex_n (by omega), ja_up_x (by omega), s5]
          exact k5
        · rw [X_ex_n (by omega), ja_up_s, g2]
          exact t1.symm
      · obtain ⟨t0, t1⟩ := k3 q
        have e1 : X_en m' x o = X_ex (ja_up m' x 7 (m' x 4)) x 4 := by
          rw [X_en, if_neg (by omega), if_pos (by omega)]
        rw [e1]
        refine X_last hf hxo hn (by omega) X_ex_2.1 X_ex_2.2.1 X_ex_2.2.2 ?_ h0 ?_ ?_ ?_ (fun _ => ?_)
        · rw [X_ex_n (by omega), ja_up_x (by omega)]
          exact o4
        · exact X_te_c (fun c j c1 c2 => by rw [X_ex_n (by omega), ja_up_x (by omega)]; exact so c j (by omega)) ht
        · rw [X_ex_n (by omega), ja_up_x (by omega), s5]
          exact k5
        · rw [X_ex_n (by omega), ja_up_x (by omega), s6]
          exact t0
        · rw [X_ex_n (by omega), ja_up_s, g2]
          exact t1.symm
    · rw [if_neg hh]
      exact X_cc_0 (a1 (Or.inr hh))
/-- an entry -/
theorem X_ent (hf : ∀ j : Nat, j < n → fc j = fr j) (hxo : x < o ∨ o + 5 ≤ x) (hn : n ≤ 120) {p : Nat} {tl : Int} {T : Nat → Int} {m : ja_M} (hp : p < n) (hr : X_rd x o m T tl) (h0 : 0 ≤ tl ∧ tl < 24) : X_cc fc x o n p m (N_en fr n p tl T) := by
  obtain ⟨r1, r2, r3⟩ := hr
  have hc : N_he fr n p = fc p := by
    unfold N_he
    rw [if_pos (by omega), hf p hp]
    rfl
  have ef : X_fb m x (fc p) = ja_b (fc p = 100 ∨ fc p = 114 ∨ fc p = 99) := by rw [X_fb, if_pos r1]
  have em : X_fm m x o (fc p) = X_be m x (fc p) := by rw [X_fm, if_pos r1]
  have e0 : X_lp fc x o n (n - p) p m = if X_fb m x (fc p) = 0 then ((p : Int), X_fm m x o (fc p)) else X_lp fc x o n (n - (p + 1)) (p + 1) (X_fm m x o (fc p)) := by
    rw [show n - p = (n - (p + 1)) + 1 by omega]
    rfl
  unfold N_en
  by_cases hk : N_he fr n p = 100 ∨ N_he fr n p = 114 ∨ N_he fr n p = 99
  · rw [if_pos hk]
    have hb : X_fb m x (fc p) = 1 := by
      rw [ef]
      exact if_pos (by rw [← hc]; exact hk)
    rw [hb, if_neg (by decide), em] at e0
    refine X_cc_e e0 ?_
    rw [show ((p : Int) + 1) = ((p + 1 : Nat) : Int) by omega]
    obtain ⟨v0, v1, v2, v3⟩ := N_et_v (T := T) (tl := tl) (e := N_e0 (N_he fr n p)) (a := (N_nm fr n 4 ((p + 1 : Nat) : Int) (-1)).1) h0.1
    by_cases hd : N_he fr n p = 100
    · have b1 : X_be m x (fc p) = X_ex (ja_up m x 5 0) x 1 := by rw [X_be, if_pos (by omega)]
      have e00 : N_e0 (N_he fr n p) = 0 := if_pos hd
      rw [e00] at v0 v1 v2 v3
      rw [b1, e00]
      have f2 : X_ex (ja_up m x 5 0) x 1 x 2 = 1 := X_ex_2.1
      have f5 : X_ex (ja_up m x 5 0) x 1 x 5 = 0 := by rw [X_ex_n (by omega), ja_up_s]
      have eon : X_eon (X_ex (ja_up m x 5 0) x 1) x = 64 := by
        unfold X_eon
        rw [if_neg (by omega), if_neg (by omega)]
      by_cases hz : (N_nm fr n 4 ((p + 1 : Nat) : Int) (-1)).1 < 0
      · rw [if_pos hz]
        exact X_cc_0 ((X_num (o := o) hf (by omega) (by rw [f2]; decide) X_ex_2.2.1 X_ex_2.2.2).1 (Or.inl hz))
      · rw [if_neg hz]
        unfold N_e1
        rw [if_pos (show (0 : Int) ≤ 0 by decide)]
        refine X_mid hf hxo hn (by omega) (Or.inl f2) X_ex_2.2.1 X_ex_2.2.2 ?_ h0 ?_ ?_ (fun _ => ⟨v0, v1, by omega, v2⟩) (fun q => absurd (f2.symm.trans q) (by decide))
        · rw [X_ex_n (by omega), ja_up_x (by omega)]
          exact r2
        · exact X_te_T v3 (X_te_c (fun c j c1 c2 => by rw [X_ex_n (by omega), ja_up_x (by omega)]) r3)
        · rw [f5, v0]
    · have b1 : X_be m x (fc p) = X_ex (ja_up m x 5 (N_e0 (N_he fr n p))) x 2 := by
        rw [X_be, if_neg (by omega), hc]
        unfold N_e0
        by_cases h14 : fc p = 114
        · rw [if_pos h14, if_neg (by omega), if_pos h14]
        · rw [if_neg h14, if_pos (by omega), if_neg (by omega), if_neg h14]
      have hpos : ¬ N_e0 (N_he fr n p) ≤ 0 := by
        unfold N_e0
        rw [if_neg hd]
        split <;> omega
      rw [b1]
      have f2 : X_ex (ja_up m x 5 (N_e0 (N_he fr n p))) x 2 x 2 = 2 := X_ex_2.1
      have f5 : X_ex (ja_up m x 5 (N_e0 (N_he fr n p))) x 2 x 5 = N_e0 (N_he fr n p) := by rw [X_ex_n (by omega), ja_up_s]
      have fo : X_ex (ja_up m x 5 (N_e0 (N_he fr n p))) x 2 o 4 = tl := by
        rw [X_ex_n (by omega), ja_up_x (by omega)]
        exact r2
      have ft : X_te o (X_ex (ja_up m x 5 (N_e0 (N_he fr n p))) x 2) T tl := X_te_c (fun c j c1 c2 => by rw [X_ex_n (by omega), ja_up_x (by omega)]) r3
      have f3 : X_ex (ja_up m x 5 (N_e0 (N_he fr n p))) x 2 x 3 = 0 := X_ex_2.2.1
      have f4 : X_ex (ja_up m x 5 (N_e0 (N_he fr n p))) x 2 x 4 = 0 := X_ex_2.2.2
      generalize X_ex (ja_up m x 5 (N_e0 (N_he fr n p))) x 2 = m1 at *
      generalize N_e0 (N_he fr n p) = e at *
      have eon : X_eon m1 x = 46 := if_pos f2
      obtain ⟨a1, a2⟩ := X_num (o := o) (p := p + 1) (m := m1) hf (by omega) (by omega) f3 f4
      rw [eon] at a1 a2
      by_cases hz : (N_nm fr n 4 ((p + 1 : Nat) : Int) (-1)).1 < 0
      · rw [if_pos hz]
        exact X_cc_0 (a1 (Or.inl hz))
      · rw [if_neg hz]
        unfold N_e1
        rw [if_neg hpos]
        by_cases hh : N_he fr n (N_nm fr n 4 ((p + 1 : Nat) : Int) (-1)).2 = 46
        · rw [if_pos hh]
          obtain ⟨m', p', g1, g2, g3, g4, g5, g6⟩ := a2 hz hh
          clear a1 a2
          rw [g3, show ((p' : Int) + 1) = ((p' + 1 : Nat) : Int) by omega]
          refine X_cc_e g6 ?_
          have s2 : m' x 2 = 2 := (g1 x 2 (by omega)).trans f2
          have s5 : m' x 5 = e := (g1 x 5 (by omega)).trans f5
          have so : ∀ c j, c < 5 → m' (o + c) j = m1 (o + c) j := fun c j hc => g1 (o + c) j (by omega)
          have o4 : m' o 4 = tl := (so 0 4 (by omega)).trans fo
          have e1 : X_en m' x o = X_ex (ja_up m' x 6 (m' x 4)) x 3 := by rw [X_en, if_pos s2]
          rw [e1]
          have w2 : X_ex (ja_up m' x 6 (m' x 4)) x 3 x 2 = 3 := X_ex_2.1
          refine X_mid hf hxo hn (by omega) (Or.inr w2) X_ex_2.2.1 X_ex_2.2.2 ?_ h0 ?_ ?_ (fun q => absurd (w2.symm.trans q) (by decide)) (fun _ => ⟨?_, ?_⟩)
          · rw [X_ex_n (by omega), ja_up_x (by omega)]
            exact o4
          · refine X_te_T (fun j hj => ?_) (X_te_c (fun c j c1 c2 => by rw [X_ex_n (by omega), ja_up_x (by omega)]; exact so c j (by omega)) ft)
            rw [ja_rs_n (by omega)]
            exact v3 j hj
          · rw [X_ex_n (by omega), ja_up_x (by omega), s5, ja_rs_n (by omega)]
            exact v0.symm
          · rw [X_ex_n (by omega), ja_up_s, g2, ja_rs_n (by omega)]
            exact v1.symm
          · rw [ja_rs_s]
        · rw [if_neg hh]
          exact X_cc_0 (a1 (Or.inr hh))
  · rw [if_neg hk]
    have hb : X_fb m x (fc p) = 0 := by
      rw [ef]
      exact if_neg (by rw [← hc]; exact hk)
    rw [hb, if_pos rfl] at e0
    exact X_cc_0 (by rw [e0])
/-- the whole text -/
theorem X_par (hf : ∀ j : Nat, j < n → fc j = fr j) (hxo : x < o ∨ o + 5 ≤ x) (hn : n ≤ 120) : ∀ (k p : Nat) (tl : Int) (T : Nat → Int) (m : ja_M), p ≤ n → 125 ≤ p + 5 * k → 0 ≤ tl → 5 * tl ≤ p → X_rd x o m T tl → ((N_tx fr n k p tl T).1 = 0 → (X_lp fc x o n (n - p) p m).1 = (N_tx fr n k p tl T).2.1) ∧ ((N_tx fr n k p tl T).1 = 1 → (X_lp fc x o n (n - p) p m).1 = -1004 ∧ X_rd x o (X_lp fc x o n (n - p) p m).2 (N_tx fr n k p tl T).2.2.2 (N_tx fr n k p tl T).2.2.1)
  | 0, p, tl, T, m, hp, hk, h0, h5, hr => by omega
  | k + 1, p, tl, T, m, hp, hk, h0, h5, hr => by
    simp only [N_tx]
    by_cases hlt : (p : Int) < n
    · rw [if_pos hlt]
      obtain ⟨c1, c2⟩ := X_ent hf hxo hn (p := p) (by omega) hr ⟨h0, by omega⟩
      obtain ⟨d1, d2, d3, d4, d5⟩ := @N_en_p fr n p tl T h0 (by omega)
      by_cases hE : (N_en fr n p tl T).1 = 0
      · rw [if_pos hE]
        exact ⟨c1, fun q => by omega⟩
      · rw [if_neg hE]
        have hE1 : (N_en fr n p tl T).1 = 1 := by omega
        obtain ⟨m', p', g1, g2, g3, g4⟩ := c2 hE1
        obtain ⟨d31, d32, d33⟩ := d3 hE1
        rw [g3, g1]
        exact X_par hf hxo hn k p' _ _ m' g2 (by omega) (by omega) (by omega) g4
    · rw [if_neg hlt]
      have hpn : p = n := by omega
      subst hpn
      rw [Nat.sub_self]
      have e : X_lp fc x o p 0 p m = (-1004, m) := by
        show ((if m x 2 = 0 then (-1004 : Int) else (p : Int)), m) = _
        rw [if_pos hr.1]
      rw [e]
      exact ⟨fun q => absurd (show (1 : Int) = 0 from q) (by decide), fun _ => ⟨rfl, hr⟩⟩
end
/-- THE TEXT'S FAULT, AND WHAT IT DESCRIBES -/
theorem B_txt {mem : ja_M} {y : Nat} {G : ja_M} {g : Nat} (hH : ja_HO mem (y + 42)) (hx : L_x mem y G g) : ((N_rdt G g).1 = 0 → (B_rd mem y).1 = (N_rdt G g).2.1) ∧ ((N_rdt G g).1 = 1 → (B_rd mem y).1 = -1004 ∧ X_rd (y + 42) (y + 44) (B_rd mem y).2 (N_rdt G g).2.2.2 (N_rdt G g).2.2.1) := by
  have hl := hH.1
  obtain ⟨x1, x2⟩ := hx
  have hn : (((mem (y + 42) 1).toNat : Nat) : Int) = mem (y + 42) 1 := by omega
  have h := X_par (fc := mem (y + 42 + 1)) (fr := G (g + 5)) (x := y + 42) (o := y + 44) (n := (mem (y + 42) 1).toNat) (fun j hj => x2 j (by omega)) (by omega) (by omega) 25 0 0 (G (g + 8)) (ja_up (ja_up mem (y + 44) 4 0) (y + 42) 2 0) (by omega) (by omega) (by omega) (by omega) ⟨ja_up_s _ _ _ _, by rw [ja_up_a (by omega), ja_up_s], fun i hi => by omega⟩
  rw [hn, Nat.sub_zero] at h
  unfold N_rdt B_rd
  rw [← x1]
  exact h
theorem B_fp_N {mem : ja_M} {y : Nat} {G : ja_M} {g : Nat} (hH : ja_HO mem (y + 42)) (hx : L_x mem y G g) (hT : N_TO G g) : (B_rd mem y).1 = if (N_rdt G g).1 = 0 then (N_rdt G g).2.1 else -1004 := by
  obtain ⟨p0, p1⟩ := B_txt hH hx
  obtain ⟨x1, -⟩ := @N_tx_p (G (g + 5)) (G g 5) 25 0 0 (G (g + 8)) (by omega) (by omega) hT.1.1 (by omega) (fun i i0 i1 => by omega)
  rw [show N_tx (G (g + 5)) (G g 5) 25 0 0 (G (g + 8)) = N_rdt G g from rfl] at x1
  by_cases h : (N_rdt G g).1 = 0
  · rw [if_pos h]
    exact p0 h
  · rw [if_neg h]
    exact (p1 (by omega)).1
