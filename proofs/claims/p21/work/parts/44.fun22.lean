-- the reference's text: place, tellings, told
def N_tG (G : ja_M) (m : Nat) (p tl : Int) (T : Nat → Int) : ja_M := ja_up (ja_up (ja_rw G (m + 8) T) m 9 tl) m 10 p
theorem N_tG_10 {G : ja_M} {m : Nat} {p tl : Int} {T : Nat → Int} : N_tG G m p tl T m 10 = p := ja_up_s _ _ _ _
theorem N_tG_9 {G : ja_M} {m : Nat} {p tl : Int} {T : Nat → Int} : N_tG G m p tl T m 9 = tl := by
  unfold N_tG
  rw [ja_up_j (by omega), ja_up_s]
theorem N_tG_j {G : ja_M} {m j : Nat} {p tl : Int} {T : Nat → Int} (h9 : j ≠ 9) (h10 : j ≠ 10) : N_tG G m p tl T m j = G m j := by
  unfold N_tG
  rw [ja_up_j h10, ja_up_j h9, ja_rw_n (by omega)]
theorem N_tG_8 {G : ja_M} {m : Nat} {p tl : Int} {T : Nat → Int} : N_tG G m p tl T (m + 8) = T := by
  unfold N_tG
  rw [ja_up_row (by omega), ja_up_row (by omega), ja_rw_s]
theorem N_tG_o {G : ja_M} {m q : Nat} {p tl : Int} {T : Nat → Int} (h : q ≠ m) (h8 : q ≠ m + 8) : N_tG G m p tl T q = G q := by
  unfold N_tG
  rw [ja_up_row h, ja_up_row h, ja_rw_n h8]
theorem N_tG_u10 {G : ja_M} {m : Nat} {p tl z : Int} {T : Nat → Int} : ja_up (N_tG G m p tl T) m 10 z = N_tG G m z tl T := by
  funext q x
  unfold N_tG ja_up
  by_cases h : q = m ∧ x = 10
  · rw [if_pos h, if_pos h]
  · rw [if_neg h, if_neg h, if_neg h]
theorem N_tG_u9 {G : ja_M} {m : Nat} {p tl z : Int} {T : Nat → Int} : ja_up (N_tG G m p tl T) m 9 z = N_tG G m p z T := by
  funext q x
  unfold N_tG ja_up
  by_cases h : q = m ∧ x = 9
  · rw [if_pos h, if_neg (fun h2 => by omega), if_pos h]
  · rw [if_neg h]
    by_cases h2 : q = m ∧ x = 10
    · rw [if_pos h2, if_pos h2]
    · rw [if_neg h2, if_neg h2, if_neg h, if_neg h]
theorem N_tG_u8 {G : ja_M} {m j : Nat} {p tl z : Int} {T : Nat → Int} : ja_up (N_tG G m p tl T) (m + 8) j z = N_tG G m p tl (ja_rs T j z) := by
  funext q x
  unfold N_tG ja_up ja_rw ja_rs
  by_cases h : q = m + 8
  · subst h
    simp
  · simp [h]
theorem N_tG_self {G : ja_M} {m : Nat} : N_tG G m (G m 10) (G m 9) (G (m + 8)) = G := by
  funext q x
  unfold N_tG ja_up ja_rw
  by_cases h : q = m ∧ x = 10
  · rw [if_pos h, h.1, h.2]
  · rw [if_neg h]
    by_cases h2 : q = m ∧ x = 9
    · rw [if_pos h2, h2.1, h2.2]
    · rw [if_neg h2]
      by_cases h3 : q = m + 8
      · rw [if_pos h3, h3]
      · rw [if_neg h3]
def N_he (f : Nat → Int) (ln p : Int) : Int := if p < ln then f p.toNat else 0
theorem N_he_in {f : Nat → Int} {ln p : Int} (h : ∀ j, 0 ≤ f j ∧ f j ≤ 126) : 0 ≤ N_he f ln p ∧ N_he f ln p ≤ 126 := by
  unfold N_he
  split
  · exact h _
  · omega
theorem N_he_lt {f : Nat → Int} {ln p : Int} (h : ¬ N_he f ln p = 0) : p < ln := by
  unfold N_he at h
  by_cases q : p < ln
  · exact q
  · rw [if_neg q] at h
    exact absurd rfl h
def N_nm (f : Nat → Int) (ln : Int) : Nat → Int → Int → Int × Int
  | 0, p, z => (z, p)
  | k + 1, p, z => if 48 ≤ N_he f ln p ∧ N_he f ln p ≤ 57 then N_nm f ln k (p + 1) ((if z < 0 then 0 else 10 * z) + N_he f ln p - 48) else (z, p)
/-- k digits may still come -/
def N_dg (k : Nat) (z : Int) : Prop := (k = 4 ∧ z = -1) ∨ (k = 3 ∧ 0 ≤ z ∧ z ≤ 9) ∨ (k = 2 ∧ 0 ≤ z ∧ z ≤ 99) ∨ (k = 1 ∧ 0 ≤ z ∧ z ≤ 999) ∨ (k = 0 ∧ 0 ≤ z ∧ z ≤ 9999)
theorem N_dg_s {k : Nat} {z c : Int} (h : N_dg (k + 1) z) (hc : 48 ≤ c ∧ c ≤ 57) : N_dg k ((if z < 0 then 0 else 10 * z) + c - 48) := by
  unfold N_dg at h ⊢
  split <;> omega
theorem N_dg_in {k : Nat} {z : Int} (h : N_dg k z) : -1 ≤ z ∧ z ≤ 9999 := by
  unfold N_dg at h
  omega
theorem N_nm_in {f : Nat → Int} {ln : Int} : ∀ (k : Nat) (p z : Int), N_dg k z → p ≤ ln → (-1 ≤ (N_nm f ln k p z).1 ∧ (N_nm f ln k p z).1 ≤ 9999) ∧ (p ≤ (N_nm f ln k p z).2 ∧ (N_nm f ln k p z).2 ≤ ln) ∧ ((N_nm f ln k p z).1 ≠ z → p + 1 ≤ (N_nm f ln k p z).2)
  | 0, p, z, h, hp => by
    have := N_dg_in h
    simp only [N_nm]
    exact ⟨this, ⟨by omega, hp⟩, fun q => absurd rfl q⟩
  | k + 1, p, z, h, hp => by
    have h1 := N_dg_in h
    simp only [N_nm]
    split
    · rename_i hc
      have hlt : p < ln := N_he_lt (f := f) (by omega)
      obtain ⟨a, b, c⟩ := @N_nm_in f ln k (p + 1) _ (N_dg_s h hc) (by omega)
      exact ⟨a, ⟨by omega, b.2⟩, fun _ => b.1⟩
    · exact ⟨h1, ⟨by omega, hp⟩, fun q => absurd rfl q⟩
theorem N_dg4 : N_dg 4 (-1) := Or.inl ⟨rfl, rfl⟩
theorem N_n4 {f : Nat → Int} {ln p : Int} (hp : p ≤ ln) : (-1 ≤ (N_nm f ln 4 p (-1)).1 ∧ (N_nm f ln 4 p (-1)).1 ≤ 9999) ∧ (p ≤ (N_nm f ln 4 p (-1)).2 ∧ (N_nm f ln 4 p (-1)).2 ≤ ln) ∧ (0 ≤ (N_nm f ln 4 p (-1)).1 → p + 1 ≤ (N_nm f ln 4 p (-1)).2) := by
  obtain ⟨a, b, c⟩ := @N_nm_in f ln 4 p (-1) N_dg4 hp
  exact ⟨a, b, fun h => c (by omega)⟩
-- an entry: whether it is one; place, tellings, told
abbrev N_E : Type := Int × Int × Int × (Nat → Int)
def N_e0 (c : Int) : Int := if c = 100 then 0 else if c = 114 then 1 else 2
def N_e3 (f : Nat → Int) (ln p tl : Int) (T : Nat → Int) : N_E := if (N_nm f ln 4 p (-1)).1 < 0 then (0, (N_nm f ln 4 p (-1)).2, tl + 1, ja_rs T (4 * tl + 3).toNat (N_nm f ln 4 p (-1)).1) else (ja_b (N_he f ln (N_nm f ln 4 p (-1)).2 = 59), (N_nm f ln 4 p (-1)).2 + ja_b (N_he f ln (N_nm f ln 4 p (-1)).2 = 59), tl + 1, ja_rs T (4 * tl + 3).toNat (N_nm f ln 4 p (-1)).1)
def N_e2 (f : Nat → Int) (ln p tl : Int) (T : Nat → Int) : N_E := if T (4 * tl + 2).toNat < 0 then (0, p, tl, T) else if N_he f ln p = 64 then N_e3 f ln (p + 1) tl T else (0, p, tl, T)
def N_e1 (f : Nat → Int) (ln p tl e : Int) (T : Nat → Int) : N_E := if e ≤ 0 then N_e2 f ln p tl T else if N_he f ln p = 46 then N_e2 f ln (N_nm f ln 4 (p + 1) (-1)).2 tl (ja_rs T (4 * tl + 2).toNat (N_nm f ln 4 (p + 1) (-1)).1) else (0, p, tl, T)
def N_et (T : Nat → Int) (tl e a : Int) : Nat → Int := ja_rs (ja_rs (ja_rs T (4 * tl).toNat e) (4 * tl + 1).toNat a) (4 * tl + 2).toNat 0
def N_en (f : Nat → Int) (ln p tl : Int) (T : Nat → Int) : N_E :=
  if N_he f ln p = 100 ∨ N_he f ln p = 114 ∨ N_he f ln p = 99 then
    if (N_nm f ln 4 (p + 1) (-1)).1 < 0 then (0, (N_nm f ln 4 (p + 1) (-1)).2, tl, N_et T tl (N_e0 (N_he f ln p)) (N_nm f ln 4 (p + 1) (-1)).1)
    else N_e1 f ln (N_nm f ln 4 (p + 1) (-1)).2 tl (N_e0 (N_he f ln p)) (N_et T tl (N_e0 (N_he f ln p)) (N_nm f ln 4 (p + 1) (-1)).1)
  else (0, p, tl, ja_rs T (4 * tl).toNat (N_e0 (N_he f ln p)))
def N_tx (f : Nat → Int) (ln : Int) : Nat → Int → Int → (Nat → Int) → N_E
  | 0, p, tl, T => (1, p, tl, T)
  | k + 1, p, tl, T => if p < ln then (if (N_en f ln p tl T).1 = 0 then N_en f ln p tl T else N_tx f ln k (N_en f ln p tl T).2.1 (N_en f ln p tl T).2.2.1 (N_en f ln p tl T).2.2.2) else (1, p, tl, T)
/-- entry i of the told ones: a kind, numbers that the text can bear -/
def N_tr (T : Nat → Int) (i : Int) : Prop := (0 ≤ T (4 * i).toNat ∧ T (4 * i).toNat ≤ 2) ∧ ja_n4 (T (4 * i + 1).toNat) ∧ ja_n4 (T (4 * i + 2).toNat) ∧ ja_n4 (T (4 * i + 3).toNat)
theorem N_e0_in {c : Int} : 0 ≤ N_e0 c ∧ N_e0 c ≤ 2 := by
  unfold N_e0
  split
  · omega
  · split <;> omega
theorem N_tr_c {T T' : Nat → Int} {i : Int} (h : ∀ j : Nat, (j : Int) < 4 * i + 4 → T' j = T j) (h0 : 0 ≤ i) (hT : N_tr T i) : N_tr T' i := by
  unfold N_tr
  rw [h _ (by omega), h _ (by omega), h _ (by omega), h _ (by omega)]
  exact hT
/-- what an entry does -/
def N_ep (f : Nat → Int) (ln p tl : Int) (T : Nat → Int) (E : N_E) : Prop := (E.1 = 0 ∨ E.1 = 1) ∧ (p ≤ E.2.1 ∧ E.2.1 ≤ ln) ∧ (E.1 = 1 → p + 5 ≤ E.2.1 ∧ E.2.2.1 = tl + 1 ∧ N_tr E.2.2.2 tl) ∧ (tl ≤ E.2.2.1 ∧ E.2.2.1 ≤ tl + 1) ∧ ∀ j : Nat, (j : Int) < 4 * tl → E.2.2.2 j = T j
theorem N_e3_p {f : Nat → Int} {ln p tl : Int} {T : Nat → Int} (h0 : 0 ≤ tl) (hp : p ≤ ln) (h1 : (0 ≤ T (4 * tl).toNat ∧ T (4 * tl).toNat ≤ 2) ∧ ja_n4 (T (4 * tl + 1).toNat) ∧ ja_n4 (T (4 * tl + 2).toNat)) : ((N_e3 f ln p tl T).1 = 0 ∨ (N_e3 f ln p tl T).1 = 1) ∧ (p ≤ (N_e3 f ln p tl T).2.1 ∧ (N_e3 f ln p tl T).2.1 ≤ ln) ∧ ((N_e3 f ln p tl T).1 = 1 → p + 2 ≤ (N_e3 f ln p tl T).2.1 ∧ (N_e3 f ln p tl T).2.2.1 = tl + 1 ∧ N_tr (N_e3 f ln p tl T).2.2.2 tl) ∧ (tl ≤ (N_e3 f ln p tl T).2.2.1 ∧ (N_e3 f ln p tl T).2.2.1 ≤ tl + 1) ∧ ∀ j : Nat, (j : Int) < 4 * tl → (N_e3 f ln p tl T).2.2.2 j = T j := by
  obtain ⟨a1, a2, a3⟩ := @N_n4 f ln p hp
  unfold N_e3
  split
  · exact ⟨Or.inl rfl, a2, fun q => by simp at q, ⟨by dsimp only; omega, by dsimp only; omega⟩, fun j hj => by dsimp only; rw [ja_rs_n (by omega)]⟩
  · rename_i hn
    dsimp only
    have hb := @ja_b_o (N_he f ln (N_nm f ln 4 p (-1)).2 = 59) _
    refine ⟨hb, ?_, fun q => ⟨by omega, rfl, ?_⟩, ⟨by omega, by omega⟩, fun j hj => by rw [ja_rs_n (by omega)]⟩
    · rcases hb with q | q
      · rw [q]
        omega
      · have hh : N_he f ln (N_nm f ln 4 p (-1)).2 = 59 := ja_b_1 (by rw [q]; decide)
        have := N_he_lt (f := f) (ln := ln) (p := (N_nm f ln 4 p (-1)).2) (by omega)
        rw [q]
        omega
    · unfold N_tr
      rw [ja_rs_n (by omega), ja_rs_n (by omega), ja_rs_n (by omega), ja_rs_s]
      exact ⟨h1.1, h1.2.1, h1.2.2, ⟨by omega, by omega⟩⟩
theorem N_e2_p {f : Nat → Int} {ln p tl : Int} {T : Nat → Int} (h0 : 0 ≤ tl) (hp : p ≤ ln) (h1 : (0 ≤ T (4 * tl).toNat ∧ T (4 * tl).toNat ≤ 2) ∧ ja_n4 (T (4 * tl + 1).toNat) ∧ (T (4 * tl + 2).toNat ≤ 9999)) : ((N_e2 f ln p tl T).1 = 0 ∨ (N_e2 f ln p tl T).1 = 1) ∧ (p ≤ (N_e2 f ln p tl T).2.1 ∧ (N_e2 f ln p tl T).2.1 ≤ ln) ∧ ((N_e2 f ln p tl T).1 = 1 → p + 3 ≤ (N_e2 f ln p tl T).2.1 ∧ (N_e2 f ln p tl T).2.2.1 = tl + 1 ∧ N_tr (N_e2 f ln p tl T).2.2.2 tl) ∧ (tl ≤ (N_e2 f ln p tl T).2.2.1 ∧ (N_e2 f ln p tl T).2.2.1 ≤ tl + 1) ∧ ∀ j : Nat, (j : Int) < 4 * tl → (N_e2 f ln p tl T).2.2.2 j = T j := by
  unfold N_e2
  split
  · exact ⟨Or.inl rfl, ⟨by dsimp only; omega, hp⟩, fun q => by simp at q, ⟨by dsimp only; omega, by dsimp only; omega⟩, fun j hj => rfl⟩
  · rename_i hn
    split
    · rename_i hh
      have hlt := N_he_lt (f := f) (ln := ln) (p := p) (by omega)
      obtain ⟨b1, b2, b3, b4, b5⟩ := @N_e3_p f ln (p + 1) tl T h0 (by omega) ⟨h1.1, h1.2.1, ⟨by omega, by omega⟩⟩
      exact ⟨b1, ⟨by omega, b2.2⟩, fun q => ⟨by have := (b3 q).1; omega, (b3 q).2⟩, b4, b5⟩
    · exact ⟨Or.inl rfl, ⟨by dsimp only; omega, hp⟩, fun q => by simp at q, ⟨by dsimp only; omega, by dsimp only; omega⟩, fun j hj => rfl⟩
theorem N_en_p {f : Nat → Int} {ln p tl : Int} {T : Nat → Int} (h0 : 0 ≤ tl) (hp : p ≤ ln) : N_ep f ln p tl T (N_en f ln p tl T) := by
  unfold N_ep N_en
  split
  · rename_i hc
    have hlt := N_he_lt (f := f) (ln := ln) (p := p) (by omega)
    obtain ⟨a1, a2, a3⟩ := @N_n4 f ln (p + 1) (by omega)
    have he := @N_e0_in (N_he f ln p)
    generalize N_e0 (N_he f ln p) = e at *
    have hT : ∀ j : Nat, (j : Int) < 4 * tl → N_et T tl e (N_nm f ln 4 (p + 1) (-1)).1 j = T j := fun j hj => by
      unfold N_et
      rw [ja_rs_n (by omega), ja_rs_n (by omega), ja_rs_n (by omega)]
    have t0 : N_et T tl e (N_nm f ln 4 (p + 1) (-1)).1 (4 * tl).toNat = e := by
      unfold N_et
      rw [ja_rs_n (by omega), ja_rs_n (by omega), ja_rs_s]
    have t1 : N_et T tl e (N_nm f ln 4 (p + 1) (-1)).1 (4 * tl + 1).toNat = (N_nm f ln 4 (p + 1) (-1)).1 := by
      unfold N_et
      rw [ja_rs_n (by omega), ja_rs_s]
    have t2 : N_et T tl e (N_nm f ln 4 (p + 1) (-1)).1 (4 * tl + 2).toNat = 0 := by
      unfold N_et
      rw [ja_rs_s]
    split
    · exact ⟨Or.inl rfl, ⟨by dsimp only; omega, a2.2⟩, fun q => by simp at q, ⟨by dsimp only; omega, by dsimp only; omega⟩, hT⟩
    · rename_i hn
      generalize (N_nm f ln 4 (p + 1) (-1)).1 = a at *
      generalize (N_nm f ln 4 (p + 1) (-1)).2 = p1 at *
      generalize N_et T tl e a = T1 at *
      unfold N_e1
      split
      · obtain ⟨b1, b2, b3, b4, b5⟩ := @N_e2_p f ln p1 tl T1 h0 a2.2 ⟨by omega, ⟨by omega, by omega⟩, by omega⟩
        exact ⟨b1, ⟨by omega, b2.2⟩, fun q => ⟨by have := (b3 q).1; omega, (b3 q).2⟩, b4, fun j hj => (b5 j hj).trans (hT j hj)⟩
      · split
        · rename_i hh
          have hlt2 := N_he_lt (f := f) (ln := ln) (p := p1) (by omega)
          obtain ⟨c1, c2, c3⟩ := @N_n4 f ln (p1 + 1) (by omega)
          obtain ⟨b1, b2, b3, b4, b5⟩ := @N_e2_p f ln (N_nm f ln 4 (p1 + 1) (-1)).2 tl (ja_rs T1 (4 * tl + 2).toNat (N_nm f ln 4 (p1 + 1) (-1)).1) h0 c2.2 ⟨by rw [ja_rs_n (by omega)]; omega, by rw [ja_rs_n (by omega)]; exact ⟨by omega, by omega⟩, by rw [ja_rs_s]; omega⟩
          exact ⟨b1, ⟨by omega, b2.2⟩, fun q => ⟨by have := (b3 q).1; omega, (b3 q).2⟩, b4, fun j hj => (b5 j hj).trans ((ja_rs_n (by omega)).trans (hT j hj))⟩
        · exact ⟨Or.inl rfl, ⟨by dsimp only; omega, a2.2⟩, fun q => by simp at q, ⟨by dsimp only; omega, by dsimp only; omega⟩, hT⟩
  · exact ⟨Or.inl rfl, ⟨by dsimp only; omega, hp⟩, fun q => by simp at q, ⟨by dsimp only; omega, by dsimp only; omega⟩, fun j hj => ja_rs_n (by omega)⟩
/-- a whole reading -/
theorem N_tx_p {f : Nat → Int} {ln : Int} : ∀ (k : Nat) (p tl : Int) (T : Nat → Int), 0 ≤ tl → 0 ≤ p → p ≤ ln → 5 * tl ≤ p → (∀ i : Int, 0 ≤ i → i < tl → N_tr T i) → ((N_tx f ln k p tl T).1 = 0 ∨ (N_tx f ln k p tl T).1 = 1) ∧ (p ≤ (N_tx f ln k p tl T).2.1 ∧ (N_tx f ln k p tl T).2.1 ≤ ln) ∧ (0 ≤ (N_tx f ln k p tl T).2.2.1 ∧ 5 * (N_tx f ln k p tl T).2.2.1 ≤ ln + 5) ∧ ((N_tx f ln k p tl T).1 = 1 → 5 * (N_tx f ln k p tl T).2.2.1 ≤ ln ∧ ∀ i : Int, 0 ≤ i → i < (N_tx f ln k p tl T).2.2.1 → N_tr (N_tx f ln k p tl T).2.2.2 i)
  | 0, p, tl, T, h0, h1, h2, h5, hT => ⟨Or.inr rfl, ⟨by simp only [N_tx]; omega, h2⟩, ⟨h0, by simp only [N_tx]; omega⟩, fun _ => ⟨by simp only [N_tx]; omega, hT⟩⟩
  | k + 1, p, tl, T, h0, h1, h2, h5, hT => by
    obtain ⟨e1, e2, e3, e4, e5⟩ := @N_en_p f ln p tl T h0 h2
    simp only [N_tx]
    split
    · split
      · rename_i hz
        exact ⟨e1, e2, ⟨by omega, by omega⟩, fun q => by omega⟩
      · rename_i hz
        obtain ⟨g1, g2, g3⟩ := e3 (by omega)
        have ih := @N_tx_p f ln k (N_en f ln p tl T).2.1 (N_en f ln p tl T).2.2.1 (N_en f ln p tl T).2.2.2 (by omega) (by omega) e2.2 (by omega) (fun i i0 i1 => by
          by_cases hi : i = tl
          · subst hi
            exact g3
          · exact N_tr_c (fun j hj => e5 j (by omega)) i0 (hT i i0 (by omega)))
        exact ⟨ih.1, ⟨by omega, ih.2.1.2⟩, ih.2.2⟩
    · exact ⟨Or.inr rfl, ⟨by dsimp only; omega, h2⟩, ⟨h0, by dsimp only; omega⟩, fun _ => ⟨by dsimp only; omega, hT⟩⟩
/-- arrival at place a of the told ones names what exists, at a time to come -/
abbrev N_ia (v T : Nat → Int) (i : Int) : Prop := (if T (4 * i).toNat = 0 then N_isF (T (4 * i + 1).toNat) else N_hP v (if T (4 * i).toNat = 1 then 1 else 0) (T (4 * i + 1).toNat) (T (4 * i + 2).toNat)) ∧ v 9 < T (4 * i + 3).toNat
def N_cas (v T : Nat → Int) : Nat → Nat → Int
  | 0, _ => 1
  | r + 1, i => if N_ia v T (i : Int) then N_cas v T r (i + 1) else 0
def N_cpp (v T : Nat → Int) : Nat → (Nat → Int)
  | 0 => v
  | c + 1 => ja_rs (N_cpp v T c) (2388 + 4 * v 25 + c).toNat (T c)
theorem N_cpp_n {v T : Nat → Int} {q : Nat} (h25 : 0 ≤ v 25) : ∀ c : Nat, ((q : Int) < 2388 + 4 * v 25 ∨ (2388 + 4 * v 25 + c : Int) ≤ q) → N_cpp v T c q = v q
  | 0, _ => rfl
  | c + 1, h => by
    simp only [N_cpp]
    rw [ja_rs_n (by omega)]
    exact N_cpp_n h25 c (by omega)
theorem N_cpp_s {v T : Nat → Int} (h25 : 0 ≤ v 25) : ∀ c j : Nat, j < c → N_cpp v T c (2388 + 4 * v 25 + j).toNat = T j
  | 0, j, hj => by omega
  | c + 1, j, hj => by
    simp only [N_cpp]
    by_cases hjc : j = c
    · subst hjc
      rw [ja_rs_s]
    · rw [ja_rs_n (by omega)]
      exact N_cpp_s h25 c j (by omega)
def N_sd (v T : Nat → Int) (tl : Int) : Nat → Int := ja_rs (N_cpp v T (4 * tl).toNat) 25 (v 25 + tl)
def N_sr (v : Nat → Int) (E : N_E) : Int := if E.1 = 0 then -1003 else if N_cas v E.2.2.2 E.2.2.1.toNat 0 = 0 then -1001 else if 24 < v 25 + E.2.2.1 then -1002 else E.2.2.1
def N_sw (v : Nat → Int) (E : N_E) : Nat → Int := if E.1 = 0 then v else if N_cas v E.2.2.2 E.2.2.1.toNat 0 = 0 then v else if 24 < v 25 + E.2.2.1 then v else N_sd v E.2.2.2 E.2.2.1
def N_rdt (G : ja_M) (m : Nat) : N_E := N_tx (G (m + 5)) (G m 5) 25 0 0 (G (m + 8))
abbrev N_rdG (G : ja_M) (m : Nat) : ja_M := N_tG G m (N_rdt G m).2.1 (N_rdt G m).2.2.1 (N_rdt G m).2.2.2
/-- the text's ranges -/
def N_TO (G : ja_M) (m : Nat) : Prop := (0 ≤ G m 5 ∧ G m 5 ≤ 120) ∧ ∀ j, 0 ≤ G (m + 5) j ∧ G (m + 5) j ≤ 126
