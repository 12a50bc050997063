theorem T_spr_in {mem : ja_M} {a : Nat} {q : Int} (h : ja_TO mem a) : -2000000 ≤ T_spr mem a q ∧ T_spr mem a q ≤ 2000000 := by
  have h1 := h.2.2.2 ((q * mem a 2 + 99) / 100 - 1).toNat
  have h2 := h.2.2.2 0
  obtain ⟨a1, a2⟩ := h1
  obtain ⟨b1, b2⟩ := h2
  unfold T_spr
  split <;> omega
theorem R_tg_in {mem : ja_M} {b : Nat} (hS : ja_SO mem (b + 1)) (hT : ja_TO mem (b + 6)) : -2000000 ≤ R_tg mem b ∧ R_tg mem b ≤ 2000100 := by
  have h := @T_spr_in mem (b + 6) (mem (b + 1) 6) hT
  have h7 := hS.2.2.2.2.2.2.2.1
  unfold R_tg
  omega
theorem R_lv_in {mem : ja_M} {b : Nat} {x : Int} (hS : ja_SO mem (b + 1)) (hx : 0 ≤ x ∧ x ≤ 1000) : 0 ≤ R_lv mem b x ∧ R_lv mem b x ≤ 16000 := by
  have h := @F_fr_le mem (b + 1) (b + 2) (1000 - x).toNat x
  have h0 := hS.1
  have := ja_mulb (by omega : 0 ≤ mem (b + 1) 0) h0.2 (by omega : 0 ≤ F_fr mem (b + 1) (b + 2) x (1000 - x).toNat - x) (by omega : F_fr mem (b + 1) (b + 2) x (1000 - x).toNat - x ≤ 1000)
  unfold R_lv
  omega
theorem R_lw_PO {mem : ja_M} {b : Nat} {x : Int} (h : ja_PO mem (b + 9)) : ja_PO (R_lw mem b x) (b + 9) := by
  obtain ⟨p1, p2, p3, p4, p5, p6⟩ := h
  unfold R_lw
  refine ⟨?_, ?_, ?_, fun j => ?_, fun j => ?_, fun j => ?_⟩
  · rw [ja_rw_n (by omega)]
    exact p1
  · rw [ja_rw_n (by omega)]
    exact p2
  · rw [ja_rw_n (by omega)]
    exact p3
  · rw [ja_rw_n (by omega)]
    exact p4 j
  · rw [ja_rw_n (by omega)]
    exact p5 j
  · rw [ja_rw_s]
    exact P_ldr_in p6 _ j
theorem P_beg_PO {mem : ja_M} {a : Nat} {k : Int} (h : ja_PO mem a) (h6 : mem a 6 ≤ 999) : ja_PO (P_beg mem a k) a := by
  obtain ⟨p1, p2, p3, p4, p5, p6⟩ := h
  obtain ⟨s1, s2, s4, s6⟩ := @P_beg_s mem a k
  refine ⟨by omega, by omega, by omega, fun j => ?_, fun j => ?_, fun j => ?_⟩
  · rw [P_beg_o ⟨by omega, by omega⟩]
    exact p4 j
  · rw [P_beg_o ⟨by omega, by omega⟩]
    exact p5 j
  · rw [P_beg_o ⟨by omega, by omega⟩]
    exact p6 j
