theorem F_ap_o {mem : ja_M} {f q : Nat} {r k i : Int} (h : q ≠ f + 3) : F_ap mem f r k i q = mem q := by
  unfold F_ap
  exact ja_up_row h
theorem R_ad_o {mem : ja_M} {b q : Nat} {x : Int} (h : q ≠ b ∧ (q < b + 6 ∨ b + 9 ≤ q)) : R_ad mem b x q = mem q := by
  unfold R_ad
  rw [T_add_o (by omega), R_so_o h.1]
theorem R_af_o {mem : ja_M} {b q : Nat} {x : Int} (h : b + 15 ≤ q ∨ q = b + 1) : R_af mem b x q = mem q := by
  unfold R_af
  split
  · rw [R_rs_o (by omega), R_kn, F_ad_o ⟨by omega, by omega⟩, R_lt_o (by omega), R_ad_o ⟨by omega, by omega⟩]
  · unfold R_dp
    exact ja_up_row (by omega)
theorem R_af_6 {mem : ja_M} {b : Nat} {x : Int} : R_af mem b x b 6 = mem b 6 := by
  unfold R_af
  split
  · rw [R_rs_o (by omega), R_kn, F_ad_o ⟨by omega, by omega⟩, R_lt_o (by omega), R_ad, T_add_o (by omega), R_so_j ⟨by omega, by omega⟩]
  · unfold R_dp
    exact ja_up_a (by omega)
theorem R_ap_o {mem : ja_M} {b q : Nat} {r k i : Int} (h : b + 15 ≤ q ∨ q = b + 1) : R_ap mem b r k i q = mem q := by
  unfold R_ap
  split
  · rw [R_rs_o (by omega), R_pk, F_ap_o (by omega), R_so_o (by omega)]
  · unfold R_dp
    exact ja_up_row (by omega)
theorem R_ap_6 {mem : ja_M} {b : Nat} {r k i : Int} : R_ap mem b r k i b 6 = mem b 6 := by
  unfold R_ap
  split
  · rw [R_rs_o (by omega), R_pk, F_ap_o (by omega), R_so_j ⟨by omega, by omega⟩]
  · unfold R_dp
    exact ja_up_a (by omega)
theorem R_du_o {mem : ja_M} {b q : Nat} (h : b + 15 ≤ q ∨ q = b + 1) : ∀ k, R_du mem b k q = mem q
  | 0 => rfl
  | k + 1 => by
    simp only [R_du]
    split
    · split
      · exact (R_af_o h).trans (R_du_o h k)
      · exact (R_ap_o h).trans (R_du_o h k)
    · exact R_du_o h k
theorem R_du_6 {mem : ja_M} {b : Nat} : ∀ k, R_du mem b k b 6 = mem b 6
  | 0 => rfl
  | k + 1 => by
    simp only [R_du]
    split
    · split
      · exact R_af_6.trans (R_du_6 k)
      · exact R_ap_6.trans (R_du_6 k)
    · exact R_du_6 k
theorem R_du_RO {mem : ja_M} {b : Nat} {t : Int} (h : ja_RO mem b t) (ht : t ≤ 900000) : ∀ k : Nat, (k : Int) ≤ mem (b + 15) 4 → ja_RO (R_du mem b k) b t
  | 0, _ => h
  | k + 1, hk => by
    have ih := R_du_RO h ht k (by omega)
    have hv := h.2.2.2.2.1 k (by omega)
    have hn := h.2.2.2.1.2.2.1 k
    obtain ⟨n1, n2⟩ := hn
    simp only [R_du]
    split
    · split
      · rename_i h1 h2
        exact R_af_RO ih ht ⟨n1, hv.1 h2⟩
      · exact R_ap_RO ih
    · exact ih
theorem A_rem_sub {mem : ja_M} {a : Nat} {t : Int} : ∀ k : Nat, k ≤ 24 → ∀ j : Nat, (j : Int) < A_rem mem a t k a 4 → ∃ i : Nat, i < k ∧ A_rem mem a t k (a + 1) j = mem (a + 1) i ∧ A_rem mem a t k (a + 2) j = mem (a + 2) i ∧ A_rem mem a t k (a + 3) j = mem (a + 3) i ∧ A_rem mem a t k (a + 4) j = mem (a + 4) i
  | 0, _, j, hj => by
    simp only [A_rem, ja_up_s] at hj
    omega
  | k + 1, hk, j, hj => by
    have ih := @A_rem_sub mem a t k (by omega) j
    have hs := @A_rem_sz mem a t k (by omega)
    simp only [A_rem] at hj ⊢
    split
    · rename_i hc
      rw [if_pos hc] at hj
      obtain ⟨i, h1, h2⟩ := ih hj
      exact ⟨i, by omega, h2⟩
    · rename_i hc
      rw [if_neg hc] at hj
      have hlt : A_rem mem a t k a 4 < 24 := by omega
      unfold A_add at hj ⊢
      rw [if_pos hlt] at hj ⊢
      rw [ja_up_s] at hj
      by_cases hjs : j = (A_rem mem a t k a 4).toNat
      · subst hjs
        refine ⟨k, by omega, ?_, ?_, ?_, ?_⟩
        · rw [ja_up_a (by omega), ja_up_a (by omega), ja_up_a (by omega), ja_up_a (by omega), ja_up_s]
        · rw [ja_up_a (by omega), ja_up_a (by omega), ja_up_a (by omega), ja_up_s]
        · rw [ja_up_a (by omega), ja_up_a (by omega), ja_up_s]
        · rw [ja_up_a (by omega), ja_up_s]
      · obtain ⟨i, h1, g1, g2, g3, g4⟩ := ih (by omega)
        refine ⟨i, by omega, ?_, ?_, ?_, ?_⟩
        · rw [ja_up_a (by omega), ja_up_a (by omega), ja_up_a (by omega), ja_up_a (by omega), ja_up_j hjs]
          exact g1
        · rw [ja_up_a (by omega), ja_up_a (by omega), ja_up_a (by omega), ja_up_j hjs, ja_up_a (by omega)]
          exact g2
        · rw [ja_up_a (by omega), ja_up_a (by omega), ja_up_j hjs, ja_up_a (by omega), ja_up_a (by omega)]
          exact g3
        · rw [ja_up_a (by omega), ja_up_j hjs, ja_up_a (by omega), ja_up_a (by omega), ja_up_a (by omega)]
          exact g4
theorem A_rem_AO {mem : ja_M} {a : Nat} {t : Int} (h : ja_AO mem a) : ∀ k : Nat, k ≤ 24 → ja_AO (A_rem mem a t k) a
  | 0, _ => by
    obtain ⟨h0, h1, h2, h3, h4⟩ := h
    simp only [A_rem]
    refine ⟨by rw [ja_up_s]; omega, fun j => ?_, fun j => ?_, fun j => ?_, fun j => ?_⟩
    · rw [ja_up_a (by omega)]
      exact h1 j
    · rw [ja_up_a (by omega)]
      exact h2 j
    · rw [ja_up_a (by omega)]
      exact h3 j
    · rw [ja_up_a (by omega)]
      exact h4 j
  | k + 1, hk => by
    have ih := A_rem_AO (t := t) h k (by omega)
    simp only [A_rem]
    split
    · exact ih
    · exact A_add_AO ih (h.2.1 k) (h.2.2.1 k) (h.2.2.2.1 k) (h.2.2.2.2 k)
theorem A_rem_o {mem : ja_M} {a q : Nat} {t : Int} (h : q < a ∨ a + 5 ≤ q) : ∀ k, A_rem mem a t k q = mem q
  | 0 => by
    simp only [A_rem]
    exact ja_up_row (by omega)
  | k + 1 => by
    simp only [A_rem]
    split
    · exact A_rem_o h k
    · exact (A_add_o h).trans (A_rem_o h k)
theorem R_due_RO {mem : ja_M} {b : Nat} {t : Int} (h : ja_RO mem b t) (ht : t ≤ 900000) : ja_RO (R_due mem b) b t := by
  have h4 := h.2.2.2.1.1
  have hd := R_du_RO h ht (mem (b + 15) 4).toNat (by omega)
  have ho : ∀ q, q < b + 15 → R_due mem b q = R_du mem b (mem (b + 15) 4).toNat q := fun q hq => by
    unfold R_due
    exact A_rem_o (by omega) _
  have hk : (mem (b + 15) 4).toNat ≤ 24 := by omega
  obtain ⟨g1, g2, g3, g4, g5, g6, g7, g8, g9, g10, g11, g12⟩ := hd
  refine ⟨ja_SO_c (ho _ (by omega)) g1, ja_TO_c (ho _ (by omega)) (ho _ (by omega)) (ho _ (by omega)) g2, ja_PO_c (ho _ (by omega)) (ho _ (by omega)) (ho _ (by omega)) (ho _ (by omega)) g3, A_rem_AO g4 _ hk, ?_, by rw [ho _ (by omega)]; exact g6, by rw [ho _ (by omega)]; exact g7, by rw [ho _ (by omega)]; exact g8, by rw [ho _ (by omega), ho b (by omega)]; exact g9, by rw [ho _ (by omega), ho (b + 9) (by omega)]; exact g10, by rw [ho _ (by omega), ho (b + 9) (by omega)]; exact g11, by rw [ho _ (by omega), ho (b + 9) (by omega)]; exact g12⟩
  intro j hj
  obtain ⟨i, h1, e1, e2, e3, e4⟩ := A_rem_sub _ hk j hj
  have hv := g5 i (by rw [R_du_o (by omega)]; omega)
  rw [show R_due mem b (b + 15 + 1) j = _ from e1, show R_due mem b (b + 15 + 2) j = _ from e2, show R_due mem b (b + 15 + 3) j = _ from e3, ja_hasP_c (ho (b + 1) (by omega))]
  exact hv
theorem P_beg_o {mem : ja_M} {a q : Nat} {k : Int} (h : q ≠ a ∧ q ≠ a + 3) : P_beg mem a k q = mem q := by
  unfold P_beg
  rw [ja_up_row h.1, ja_up_row h.1, ja_up_row h.1, ja_up_row h.2]
theorem P_beg_s {mem : ja_M} {a : Nat} {k : Int} : P_beg mem a k a 1 = 0 ∧ P_beg mem a k a 2 = 0 ∧ P_beg mem a k a 4 = mem a 4 ∧ P_beg mem a k a 6 = mem a 6 + 1 := by
  unfold P_beg
  refine ⟨?_, ?_, ?_, ?_⟩
  · rw [ja_up_j (by omega), ja_up_s]
  · rw [ja_up_s]
  · rw [ja_up_j (by omega), ja_up_j (by omega), ja_up_j (by omega), ja_up_a (by omega)]
  · rw [ja_up_j (by omega), ja_up_j (by omega), ja_up_s]
theorem C_co_o {mem : ja_M} {a q : Nat} (h : q ≠ a) : C_co mem a q = mem q := by
  unfold C_co
  rw [ja_up_row h, ja_up_row h, ja_up_row h]
theorem C_kn_o {mem : ja_M} {a q : Nat} {k : Int} (h : q ≠ a) : C_kn mem a k q = mem q := by
  unfold C_kn
  rw [ja_up_row h]
  split
  · rw [ja_up_row h]
  · rw [ja_up_row h]
theorem C_kn_s {mem : ja_M} {a : Nat} {k : Int} : C_kn mem a k a 7 = 0 ∧ C_kn mem a k a 8 = mem a 8 ∧ C_kn mem a k a 2 = mem a 2 := by
  unfold C_kn
  refine ⟨by rw [ja_up_s], ?_, ?_⟩
  · rw [ja_up_j (by omega)]
    split <;> rw [ja_up_j (by omega)]
  · rw [ja_up_j (by omega)]
    split <;> rw [ja_up_j (by omega)]
theorem C_co_s {mem : ja_M} {a : Nat} : C_co mem a a 7 = mem a 7 + 1 ∧ C_co mem a a 8 = (if mem a 8 < mem a 7 + 1 then mem a 7 + 1 else mem a 8) ∧ C_co mem a a 2 = mem a 2 + 1 := by
  unfold C_co
  refine ⟨?_, ?_, ?_⟩
  · rw [ja_up_j (by omega), ja_up_s]
  · rw [ja_up_s]
  · rw [ja_up_j (by omega), ja_up_j (by omega), ja_up_s]
/-- a frame was taken: the player's and the counters' rows are new, all else is as it was -/
theorem R_taken {mem mem' : ja_M} {b : Nat} {t : Int} (h : ja_RO mem b t) (hn : mem (b + 9) 6 ≤ 999) (hq : ∀ q, q ≠ b + 9 → q ≠ b + 10 → q ≠ b + 12 → q ≠ b + 13 → q ≠ b + 14 → mem' q = mem q) (h1 : 0 ≤ mem' (b + 9) 1 ∧ mem' (b + 9) 1 ≤ 24) (h2 : mem' (b + 9) 2 = 0) (h4 : mem' (b + 9) 4 = mem (b + 9) 4) (h6 : mem' (b + 9) 6 = mem (b + 9) 6 + 1) (hf : ∀ j, ja_sp (mem' (b + 9 + 1) j)) (hs : ∀ j, ja_sp (mem' (b + 9 + 4) j)) (c7 : 0 ≤ mem' (b + 14) 7 ∧ mem' (b + 14) 7 ≤ mem (b + 14) 7 + 1) (c8 : 0 ≤ mem' (b + 14) 8 ∧ mem' (b + 14) 8 ≤ mem (b + 9) 6 + 1) (c2 : 0 ≤ mem' (b + 14) 2 ∧ mem' (b + 14) 2 ≤ mem (b + 14) 2 + 1) : ja_RO mem' b t := by
  obtain ⟨g1, g2, g3, g4, g5, g6, g7, g8, g9, g10, g11, g12⟩ := h
  obtain ⟨p1, p2, p3, p4, p5, p6⟩ := g3
  have hb := hq b (by omega) (by omega) (by omega) (by omega) (by omega)
  refine ⟨ja_SO_c (hq _ (by omega) (by omega) (by omega) (by omega) (by omega)) g1, ja_TO_c (hq _ (by omega) (by omega) (by omega) (by omega) (by omega)) (hq _ (by omega) (by omega) (by omega) (by omega) (by omega)) (hq _ (by omega) (by omega) (by omega) (by omega) (by omega)) g2, ⟨by omega, by omega, by omega, hf, fun j => by rw [hq (b + 9 + 2) (by omega) (by omega) (by omega) (by omega) (by omega)]; exact p5 j, hs⟩, ja_AO_c (fun q q1 q2 => hq q (by omega) (by omega) (by omega) (by omega) (by omega)) g4, ja_VO_c (hq _ (by omega) (by omega) (by omega) (by omega) (by omega)) (fun q q1 q2 => hq q (by omega) (by omega) (by omega) (by omega) (by omega)) g5, by rw [hb]; exact g6, by rw [hb]; exact g7, by rw [hb]; exact g8, by rw [hb]; omega, by omega, by omega, by omega⟩
