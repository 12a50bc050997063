-- WHAT IS KEPT COMES BACK: the checksum is a function of what a copy keeps
theorem R_eq.tr {a c e : ja_M} {p q r : Nat} (h : R_eq a p c q) (h2 : R_eq c q e r) : R_eq a p e r := by
  obtain ⟨a1, a2, ⟨a3, a4⟩, a5, ⟨a6, a7, a8, a9⟩, a10, a11, a12, a13, a14, a15, a16, a17, a18⟩ := h
  obtain ⟨b1, b2, ⟨b3, b4⟩, b5, ⟨b6, b7, b8, b9⟩, b10, b11, b12, b13, b14, b15, b16, b17, b18⟩ := h2
  exact ⟨fun j hj => (a1 j hj).trans (b1 j hj), fun c j c1 c2 hj => (a2 c j c1 c2 hj).trans (b2 c j c1 c2 hj), ⟨a3.trans b3, a4.trans b4⟩, fun c j c1 c2 hj => (a5 c j c1 c2 hj).trans (b5 c j c1 c2 hj), ⟨a6.trans b6, a7.trans b7, a8.trans b8, a9.trans b9⟩, fun j hj => (a10 j hj).trans (b10 j hj), fun j hj => (a11 j hj).trans (b11 j hj), fun j hj => (a12 j hj).trans (b12 j hj), fun j hj => (a13 j hj).trans (b13 j hj), a14.trans b14, fun c j c1 c2 hj => (a15 c j c1 c2 (by rw [b14]; exact hj)).trans (b15 c j c1 c2 hj), a16.trans b16, a17.trans b17, a18.trans b18⟩
theorem R_eq.rows {mem M : ja_M} {b : Nat} (h : ∀ q, b ≤ q → q < b + 20 → M q = mem q) : R_eq M b mem b := ⟨fun j _ => by rw [h _ (by omega) (by omega)], fun c j c1 c2 _ => by rw [h _ (by omega) (by omega)], ⟨by rw [h _ (by omega) (by omega)], by rw [h _ (by omega) (by omega)]⟩, fun c j c1 c2 _ => by rw [h _ (by omega) (by omega)], ⟨by rw [h _ (by omega) (by omega)], by rw [h _ (by omega) (by omega)], by rw [h _ (by omega) (by omega)], by rw [h _ (by omega) (by omega)]⟩, fun j _ => by rw [h _ (by omega) (by omega)], fun j _ => by rw [h _ (by omega) (by omega)], fun j _ => by rw [h _ (by omega) (by omega)], fun j _ => by rw [h _ (by omega) (by omega)], by rw [h _ (by omega) (by omega)], fun c j c1 c2 _ => by rw [h _ (by omega) (by omega)], by rw [h _ (by omega) (by omega)], by rw [h _ (by omega) (by omega)], by rw [h _ (by omega) (by omega)]⟩
section
variable {mem M : ja_M} {b : Nat}
theorem F_st_eq (hS : ja_SO mem (b + 1)) (h : R_eq M b mem b) {x : Int} (hx : 0 ≤ x ∧ x ≤ 999) : F_st M (b + 1) (b + 2) x = F_st mem (b + 1) (b + 2) x := by
  obtain ⟨e1, e3, -⟩ := h
  have hc : ja_cells M (b + 1) = ja_cells mem (b + 1) := by
    unfold ja_cells
    rw [e1 3 (by omega), e1 4 (by omega)]
  obtain ⟨hb, -⟩ := ja_blk hS hx
  unfold F_st
  rw [hc, show b + 2 + 2 = b + 4 from rfl, show b + 2 + 1 = b + 3 from rfl, e3 4 _ (by omega) (by omega) (by omega), e3 3 _ (by omega) (by omega) (by omega)]
theorem F_fr_eq (hS : ja_SO mem (b + 1)) (h : R_eq M b mem b) : ∀ (k : Nat) (x : Int), 0 ≤ x → x + k ≤ 1000 → F_fr M (b + 1) (b + 2) x k = F_fr mem (b + 1) (b + 2) x k
  | 0, x, _, _ => rfl
  | k + 1, x, h0, h1 => by
    simp only [F_fr]
    rw [F_st_eq hS h ⟨h0, by omega⟩, F_fr_eq hS h k (x + 1) (by omega) (by omega)]
theorem R_lv_eq (hS : ja_SO mem (b + 1)) (h : R_eq M b mem b) {x : Int} (hx : 0 ≤ x ∧ x ≤ 1000) : R_lv M b x = R_lv mem b x := by
  unfold R_lv
  rw [F_fr_eq hS h _ x hx.1 (by omega), h.1 0 (by omega)]
theorem R_tg_eq (hS : ja_SO mem (b + 1)) (hT : ja_TO mem (b + 6)) (h : R_eq M b mem b) : R_tg M b = R_tg mem b := by
  obtain ⟨e1, -, ⟨e62, -⟩, e7, -⟩ := h
  obtain ⟨⟨t0, t1⟩, -⟩ := hT
  have q6 := hS.2.2.2.2.2.2.1
  unfold R_tg T_spr
  rw [e62, e1 6 (by omega), e1 7 (by omega)]
  by_cases h0 : mem (b + 6) 2 = 0
  · rw [if_pos h0, if_pos h0]
  · have m1 := Int.mul_le_mul_of_nonneg_right q6.2 (by omega : 0 ≤ mem (b + 6) 2)
    have m2 := Int.mul_le_mul_of_nonneg_right q6.1 (by omega : 0 ≤ mem (b + 6) 2)
    rw [if_neg h0, if_neg h0, show b + 6 + 2 = b + 8 from rfl, e7 8 _ (by omega) (by omega) (by omega), e7 8 0 (by omega) (by omega) (by omega)]
end
theorem B_ck_eq {mem M : ja_M} {y : Nat} {t : Int} (hR : ja_RO mem (y + 1) t) (h : R_eq M (y + 1) mem (y + 1)) : B_ck M y = B_ck mem y := by
  have hS := hR.1
  have hT := hR.2.1
  have hP := hR.2.2.1
  have htg := R_tg_eq hS hT h
  have h6 := hP.2.2.1
  obtain ⟨e1, -, ⟨e62, -⟩, -, ⟨e91, e92, e94, e96⟩, -, e11, e12, e14, e15, -, b6, b7, b8⟩ := id h
  have hlv : R_lv M (y + 1) (M (y + 1 + 9) 6) = R_lv mem (y + 1) (mem (y + 1 + 9) 6) := by
    rw [e96]
    exact R_lv_eq hS h h6
  have hou : (fun k : Nat => B_ou M y ((k : Int) + 1)) = fun k : Nat => B_ou mem y ((k : Int) + 1) := by
    funext k
    unfold B_ou
    rw [e94, show y + 1 + 9 + 2 = y + 1 + 11 from rfl, e11 _ (by omega)]
  have hki : (fun k : Nat => B_ki M y ((k : Int) + 1)) = fun k : Nat => B_ki mem y ((k : Int) + 1) := by
    funext k
    unfold B_ki
    rw [e96, show y + 1 + 9 + 3 = y + 1 + 12 from rfl, e12 _ (by omega)]
  have htk : (fun k : Nat => B_tk M y ((k : Int) + 1)) = fun k : Nat => B_tk mem y ((k : Int) + 1) := by
    funext k
    unfold B_tk
    rw [e14 2 (by omega), e14 0 (by omega), e14 1 (by omega)]
  have hss : (fun k : Nat => B_ss M y (k : Int)) = fun k : Nat => B_ss mem y (k : Int) := by
    funext k
    unfold B_ss
    by_cases hk : B_isF (k : Int)
    · rw [if_pos hk, if_pos hk]
      exact F_st_eq hS h hk
    · rw [if_neg hk, if_neg hk]
  unfold B_ck B_k4 B_k3 B_k2 B_k1
  rw [hss, hki, hou, htk, hlv, htg, b6, b7, b8, e91, e92, e94, e96, e62, e14 3 (by omega), e14 4 (by omega), e14 5 (by omega), e14 6 (by omega), e14 8 (by omega), e15]
