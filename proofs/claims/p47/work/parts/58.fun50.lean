-- WHAT HOLDS BETWEEN THE CALLS OF A STREAM
def I7 (lay : ja_Y) (mem : ja_M) (n y : Nat) (sl : Nat → Option Nat) (t : Int) (v : Nat → Int) : Prop := ja_LB lay y sl ∧ ja_BO mem y sl t ∧ y + 49 ≤ n ∧ (sl 0 = none ∧ ∀ o, sl 1 = some o → y + 49 ≤ o ∧ o + 20 ≤ n) ∧ N_O v t ∧ S1 mem (y + 1) v ∧ G_v v
section
variable {lay : ja_Y} {mem M : ja_M} {n y : Nat} {sl : Nat → Option Nat} {t : Int} {v v' : Nat → Int}
theorem I7.so (h : I7 lay mem n y sl t v) : ∀ i o, i < 2 → sl i = some o → y + 49 ≤ o ∧ o + 20 ≤ n := by
  obtain ⟨-, -, -, ⟨h0, h1⟩, -⟩ := h
  intro i o hi ho
  rcases (show i = 0 ∨ i = 1 by omega) with rfl | rfl
  · rw [h0] at ho
    cases ho
  · exact h1 o ho
theorem I7.n49 (h : I7 lay mem n y sl t v) : y + 49 ≤ n := h.2.2.1
theorem I7.L (h : I7 lay mem n y sl t v) : ja_LB lay y sl := h.1
theorem I7.O (h : I7 lay mem n y sl t v) : ja_BO mem y sl t := h.2.1
theorem I7.R (h : I7 lay mem n y sl t v) : ja_RO mem (y + 1) t := h.2.1.1
theorem I7.N (h : I7 lay mem n y sl t v) : N_O v t := h.2.2.2.2.1
theorem I7.T (h : I7 lay mem n y sl t v) : S1 mem (y + 1) v := h.2.2.2.2.2.1
theorem I7.G (h : I7 lay mem n y sl t v) : G_v v := h.2.2.2.2.2.2
theorem I7.set (h : I7 lay mem n y sl t v) : ∀ j, j < 9 → mem (y + 1 + 1) j = v j := h.T.1.1.1
theorem I7.P (h : I7 lay mem n y sl t v) : S_p mem (y + 1) v := h.T.1.2.2.2
theorem I7.W (h : I7 lay mem n y sl t v) : S_w mem (y + 1) v := h.T.1.2.2.1
theorem I7.F (h : I7 lay mem n y sl t v) : S_f mem (y + 1) v := S_x_f h.N.1.S h.T.1
theorem I7_fore (h : I7 lay mem n y sl t v) (hR : ∃ t2, ja_RO M (y + 21) t2) (hf : ∀ q, (q < y + 21 ∨ y + 41 ≤ q) → M q = mem q) : I7 lay M n y sl t v := by
  have hs := h.so
  obtain ⟨hB, hO, hn, hsl, hN, hT, hG⟩ := h
  exact ⟨hB, BO_fore (Int.le_refl _) hO (fun i o hi ho => by have := hs i o hi ho; omega) hR hf, hn, hsl, hN, S1_ok.1 mem M _ v v (fun q qa qb => hf q (by omega)) (fun _ _ => rfl) hT, hG⟩
theorem I7_recv {t' : Int} (h : I7 lay mem n y sl t v) (ht : t ≤ t') (hR : ja_RO M (y + 1) t') (hf : ∀ q, y + 21 ≤ q → M q = mem q) (hN : N_O v' t') (hT : S1 M (y + 1) v') (hG : G_v v') : I7 lay M n y sl t' v' := by
  have hs := h.so
  obtain ⟨hB, hO, hn, hsl, -⟩ := h
  exact ⟨hB, BO_recv ht hO (fun i o hi ho => by have := hs i o hi ho; omega) hR hf, hn, hsl, hN, hT, hG⟩
theorem I7_txt (h : I7 lay mem n y sl t v) (hH : ja_HO M (y + 42)) (hA : ja_AO M (y + 44)) (hf : ∀ q, (q < y + 42 ∨ y + 49 ≤ q) → M q = mem q) : I7 lay M n y sl t v := by
  have hs := h.so
  obtain ⟨hB, hO, hn, hsl, hN, hT, hG⟩ := h
  exact ⟨hB, BO_text (Int.le_refl _) hO (fun i o hi ho => by have := hs i o hi ho; omega) (ja_RO_all (fun q qa qb => hf q (by omega)) hO.1) hH hA (fun q hq => hf q (by omega)), hn, hsl, hN, S1_ok.1 mem M _ v v (fun q qa qb => hf q (by omega)) (fun _ _ => rfl) hT, hG⟩
theorem I7_af {x : Int} (h : I7 lay mem n y sl t v) (ht : t ≤ 898000) (hx : 0 ≤ x ∧ x ≤ 999) : I7 lay (R_af mem (y + 1) x) n y sl t (N_av v x) := I7_recv h (Int.le_refl _) (R_af_RO h.R (by omega) hx) (fun q hq => R_af_f (by omega)) (N_av_O h.N (by omega) hx).1 (S1_ok.2.2.2.2.2.1 _ _ _ _ _ h.R h.N (by omega) hx h.T) (G_kg (N_av_kg h.N (by omega) hx) h.G)
theorem I7_ap {r k i : Int} (h : I7 lay mem n y sl t v) (ht : t ≤ 898000) (hr : 0 ≤ r ∧ r ≤ 1) (hP : N_hP v r k i) : I7 lay (R_ap mem (y + 1) r k i) n y sl t (N_qv v r k i) := by
  have hs := S1_ok.2.2.2.2.2.2.1 mem (y + 1) v t r k i h.R h.N (by omega) hr h.T
  rw [if_pos ((ja_hasP_N h.set r k i).mpr hP), if_pos hP] at hs
  exact I7_recv h (Int.le_refl _) (R_ap_RO h.R) (fun q hq => R_ap_f (by omega)) (N_qv_O h.N (by omega) hP.1 (N_hP_6 h.N.1.S hP)).1 hs (G_kg (N_qv_kg h.N (by omega) hP.1 (N_hP_6 h.N.1.S hP)) h.G)
theorem I7_adv (h : I7 lay mem n y sl t v) (k : Nat) (hk : t + k ≤ 900001) : I7 lay (B_adv mem (y + 1) k) n y sl (t + k) (N_ad v k) := I7_recv h (by omega) (B_adv_RO h.R k hk) (fun q hq => B_adv_f (by omega) _) (N_ad_O h.N k hk) (S_adv S1_ok.2.2.2.2.2.2.2.1 h.R h.N h.T k hk) (G_ad h.N h.G k hk)
theorem G_up3 {w : Nat → Int} {j : Nat} {z : Int} (h6 : 6 ≤ j) (h9 : j < 9) (hG : G_v w) : G_v (ja_rs w j z) := by
  obtain ⟨g1, g2, g3, g4, g5, g6⟩ := hG
  unfold G_v
  rw [ja_rs_n (show 19 ≠ j by omega), ja_rs_n (show 20 ≠ j by omega), ja_rs_n (show 21 ≠ j by omega), ja_rs_n (show 11 ≠ j by omega), ja_rs_n (show 15 ≠ j by omega), ja_rs_n (show 16 ≠ j by omega), ja_rs_n (show 13 ≠ j by omega), ja_rs_n (show 14 ≠ j by omega), ja_rs_n (show 12 ≠ j by omega), ja_rs_n (show 22 ≠ j by omega), ja_rs_n (show 23 ≠ j by omega), ja_rs_n (show 0 ≠ j by omega)]
  exact ⟨g1, g2, g3, g4, g5, fun i i1 i2 => by rw [ja_rs_n (by omega)]; exact g6 i i1 i2⟩
/-- a setter that may always be called -/
theorem I7_up3 {j : Nat} {z : Int} (h : I7 lay mem n y sl t v) (h6 : 6 ≤ j) (h9 : j < 9) (hz : N_in j z) : I7 lay (ja_up mem (y + 1 + 1) j z) n y sl t (ja_rs v j z) := by
  have hs := S1_ok.2.2.2.2.1 mem (y + 1) v True j z h6 h9 h.T
  rw [if_pos trivial, if_pos trivial] at hs
  exact I7_recv h (Int.le_refl _) (RO_up h.R hz h9 (Or.inl ⟨by omega, by omega⟩)) (fun q hq => ja_up_row (by omega)) (N_O_up h.N hz h9 (Or.inl ⟨by omega, by omega⟩)) hs (G_up3 h6 h9 h.G)
end
