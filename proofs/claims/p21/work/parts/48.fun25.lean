-- a receiver's methods leave all rows but the receiver's own
theorem P_pts_oo {mem : ja_M} {a q k : Nat} {h : Nat → Int} (hq : q ≠ a ∧ q ≠ a + 1) : P_pts mem a h k q = mem q := P_pts_o hq k
theorem P_cpr_o {mem : ja_M} {a q : Nat} {z : Int} (h : q ≠ a ∧ q ≠ a + 1) : P_cpr mem a z q = mem q := by
  unfold P_cpr
  rw [P_pts_oo h, P_pts_oo h]
theorem P_str_o {mem : ja_M} {a q : Nat} {z : Int} (h : q ≠ a ∧ q ≠ a + 1) : P_str mem a z q = mem q := by
  unfold P_str
  rw [P_pts_oo h, P_pts_oo h, P_pts_oo h]
theorem P_con_o {mem : ja_M} {a q : Nat} {z g : Int} (h : q ≠ a ∧ q ≠ a + 1) (h4 : q ≠ a + 4) : P_con mem a z g q = mem q := by
  unfold P_con
  rw [P_pts_oo h, ja_rw_n h4]
theorem R_lw_o {mem : ja_M} {b q : Nat} {x : Int} (h : q ≠ b + 9 + 4) : R_lw mem b x q = mem q := by
  unfold R_lw
  exact ja_rw_n h
theorem R_pkn_o {mem : ja_M} {b q : Nat} {x : Int} (h : q ≠ b + 9 ∧ q ≠ b + 9 + 1) (h4 : q ≠ b + 9 + 4) (hc : q ≠ b + 14) : R_pkn mem b x q = mem q := by
  unfold R_pkn
  split
  · rw [P_cpr_o h, ja_up_row hc, R_lw_o h4]
  · split
    · rw [P_str_o h, ja_up_row hc, R_lw_o h4]
    · rw [P_pts_oo h, R_lw_o h4]
theorem R_tf_o {mem : ja_M} {b q : Nat} {x : Int} (h : q < b + 9 ∨ b + 15 ≤ q) : R_tf mem b x q = mem q := by
  unfold R_tf
  split
  · rw [P_con_o ⟨by omega, by omega⟩ (by omega), P_beg_o ⟨by omega, by omega⟩, C_co_o (by omega)]
  · rw [R_pkn_o ⟨by omega, by omega⟩ (by omega) (by omega), P_beg_o ⟨by omega, by omega⟩, C_kn_o (by omega)]
theorem R_pl_o {mem : ja_M} {b q : Nat} (h : q < b + 9 ∨ b + 15 ≤ q) : R_pl mem b q = mem q := by
  unfold R_pl
  split
  · rw [P_out_o ⟨by omega, by omega⟩]
    split
    · exact R_tf_o h
    · rfl
  · rfl
theorem R_af_f {mem : ja_M} {b q : Nat} {x : Int} (h : q < b ∨ b + 15 ≤ q) : R_af mem b x q = mem q := by
  unfold R_af
  split
  · rw [R_rs_o (by omega), R_kn, F_ad_o ⟨by omega, by omega⟩, R_lt_o (by omega), R_ad_o ⟨by omega, by omega⟩]
  · unfold R_dp
    exact ja_up_row (by omega)
theorem R_ap_f {mem : ja_M} {b q : Nat} {r k i : Int} (h : q < b ∨ b + 15 ≤ q) : R_ap mem b r k i q = mem q := by
  unfold R_ap
  split
  · rw [R_rs_o (by omega), R_pk, F_ap_o (by omega), R_so_o (by omega)]
  · unfold R_dp
    exact ja_up_row (by omega)
theorem R_du_f {mem : ja_M} {b q : Nat} (h : q < b ∨ b + 15 ≤ q) : ∀ k, R_du mem b k q = mem q
  | 0 => rfl
  | k + 1 => by
    simp only [R_du]
    split
    · split
      · exact (R_af_f h).trans (R_du_f h k)
      · exact (R_ap_f h).trans (R_du_f h k)
    · exact R_du_f h k
theorem R_due_f {mem : ja_M} {b q : Nat} (h : q < b ∨ b + 20 ≤ q) : R_due mem b q = mem q := by
  unfold R_due
  rw [A_rem_o (by omega), R_du_f (by omega)]
theorem R_tk_f {mem : ja_M} {b q : Nat} (h : q < b ∨ b + 20 ≤ q) : R_tk mem b q = mem q := by
  unfold R_tk
  rw [ja_up_row (by omega), R_pl_o (by omega), R_due_f h]
theorem B_adv_f {mem : ja_M} {b q : Nat} (h : q < b ∨ b + 20 ≤ q) : ∀ k, B_adv mem b k q = mem q
  | 0 => rfl
  | k + 1 => (R_tk_f h).trans (B_adv_f h k)
theorem B_gap_f {b q : Nat} {c : Int} (h : q < b ∨ b + 20 ≤ q) : ∀ (r i : Nat) (m : ja_M), (B_gap b c r i m).2 q = m q
  | 0, _, _ => rfl
  | r + 1, i, m => by
    simp only [B_gap]
    split
    · exact R_tk_f h
    · exact (B_gap_f h r (i + 1) _).trans (R_tk_f h)
theorem B_fra_f {b q : Nat} {x : Int} (h : q < b ∨ b + 20 ≤ q) : ∀ (r i : Nat) (m : ja_M), (B_fra b x r i m).2 q = m q
  | 0, _, _ => rfl
  | r + 1, i, m => by
    simp only [B_fra]
    split
    · exact R_tk_f h
    · exact (B_fra_f h r (i + 1) _).trans (R_tk_f h)
theorem B_sc_f {mem : ja_M} {y q : Nat} (hH : ja_HO mem (y + 42)) (hA : ja_AO mem (y + 44)) (h : q < y + 16 ∨ (y + 21 ≤ q ∧ q < y + 42) ∨ y + 49 ≤ q) : (B_sc mem y).2 q = mem q := by
  have hr := (B_rd_all hH hA).2.2 q (by omega)
  unfold B_sc
  split
  · split
    · exact hr
    · split
      · exact hr
      · exact (A_all_o (by omega) _).trans hr
  · exact hr
