-- TAKING A FRAME, FOR BOTH
theorem R_lw_v {M : ja_M} {b : Nat} {u : Nat → Int} {x : Int} (hs : ∀ j, j < 9 → M (b + 1) j = u j) {j : Nat} (hj : (j : Int) < u 0) : R_lw M b x (b + 9 + 4) j = N_wx u x j := by
  unfold R_lw
  rw [ja_rw_s, P_ldr_v _ j (by rw [hs 0 (by omega)]; omega), ja_wave_N hs]
  rfl
theorem R_lag {M M1 : ja_M} {b : Nat} {u : Nat → Int} {x : Int} (hS : N_S u) (hs : ∀ j, j < 9 → M (b + 1) j = u j) (h13 : M1 (b + 9 + 4) = R_lw M b x (b + 9 + 4)) : (P_lg (M1 (b + 9 + 4)) 1 (u 0 / 2 - 2).toNat).1 = N_lf u x := by
  have h0 := hS.1
  unfold N_lf
  rw [h13, P_lg_k (g' := N_wx u x) _ (fun j hj => R_lw_v hs (by omega))]
theorem R_pkn_N {M : ja_M} {b : Nat} {u : Nat → Int} {x : Int} (hS : N_S u) (hs : ∀ j, j < 9 → M (b + 1) j = u j) (h1 : M (b + 9) 1 = 0) (ht : R_tg M b = N_tg u) (hv : R_lv M b (x + 1) = N_lv u (x + 1)) : R_pkn M b x (b + 9) 1 = N_ln u x ∧ (∀ j, j ≠ 1 → R_pkn M b x (b + 9) j = M (b + 9) j) ∧ (∀ q, q ≠ b + 9 → q ≠ b + 9 + 1 → q ≠ b + 9 + 4 → q ≠ b + 14 → R_pkn M b x q = M q) ∧ ∀ j, R_pkn M b x (b + 14) j = M (b + 14) j + if j = 3 then ja_b (N_lng u x) else if j = 4 then ja_b (N_sht u x) else 0 := by
  have h0 := hS.1
  have h8 := hS.2.2.2.2.2.2.2.2
  have hl := @N_lf_in u x hS
  have e0 := hs 0 (by omega)
  have e8 := hs 8 (by omega)
  have l8 : R_lw M b x (b + 1) 8 = u 8 := by rw [R_lw_o (by omega), e8]
  have c1 : (R_lw M b x (b + 1) 8 ≠ 0 ∧ R_tg M b + M (b + 1) 0 < R_lv M b (x + 1)) ↔ N_sht u x := by
    rw [l8, ht, hv, e0]
    unfold N_sht
    constructor
    · rintro ⟨a, c⟩
      exact ⟨by omega, c⟩
    · rintro ⟨a, c⟩
      exact ⟨by omega, c⟩
  have c2 : (R_lw M b x (b + 1) 8 ≠ 0 ∧ R_lv M b (x + 1) + M (b + 1) 0 < R_tg M b) ↔ N_lng u x := by
    rw [l8, ht, hv, e0]
    unfold N_lng
    constructor
    · rintro ⟨a, c⟩
      exact ⟨by omega, c⟩
    · rintro ⟨a, c⟩
      exact ⟨by omega, c⟩
  have hrow : ∀ q, q ≠ b + 9 → q ≠ b + 9 + 1 → q ≠ b + 9 + 4 → q ≠ b + 14 → R_pkn M b x q = M q := fun q a c d e => R_pkn_o ⟨a, c⟩ d e
  suffices hh : R_pkn M b x (b + 9) 1 = N_ln u x ∧ (∀ j, j ≠ 1 → R_pkn M b x (b + 9) j = M (b + 9) j) ∧ ∀ j, R_pkn M b x (b + 14) j = M (b + 14) j + if j = 3 then ja_b (N_lng u x) else if j = 4 then ja_b (N_sht u x) else 0 from ⟨hh.1, hh.2.1, hrow, hh.2.2⟩
  unfold R_pkn N_ln
  rw [e0]
  rw [e0] at c1 c2
  by_cases hsht : N_sht u x
  · have hnl : ¬ N_lng u x := fun q => by
      have q1 := hsht.2
      have q2 := q.2
      omega
    rw [if_pos (c1.mpr hsht), if_pos hsht]
    have hlag := R_lag (M1 := ja_up (R_lw M b x) (b + 14) 4 (R_lw M b x (b + 14) 4 + 1)) (x := x) hS hs (ja_up_row (by omega))
    obtain ⟨g1, g2⟩ := P_cpr_n (mem := ja_up (R_lw M b x) (b + 14) 4 (R_lw M b x (b + 14) 4 + 1)) (a := b + 9) (n := u 0) (by rw [ja_up_a (by omega), R_lw_o (by omega)]; exact h1) (by omega) (by rw [hlag]; exact hl)
    rw [hlag] at g1
    refine ⟨g1, fun j hj => by rw [g2 j hj, ja_up_a (by omega), R_lw_o (by omega)], fun j => ?_⟩
    rw [P_cpr_o ⟨by omega, by omega⟩]
    by_cases j4 : j = 4
    · subst j4
      rw [ja_up_s, R_lw_o (by omega), if_neg (by omega), if_pos rfl, show ja_b (N_sht u x) = 1 from if_pos hsht]
    · rw [ja_up_j j4, R_lw_o (by omega), show ja_b (N_lng u x) = 0 from if_neg hnl, if_neg j4]
      split <;> omega
  · rw [if_neg (fun q => hsht (c1.mp q)), if_neg hsht, show ja_b (N_sht u x) = 0 from if_neg hsht]
    by_cases hlng : N_lng u x
    · rw [if_pos (c2.mpr hlng), if_pos hlng, show ja_b (N_lng u x) = 1 from if_pos hlng]
      have hlag := R_lag (M1 := ja_up (R_lw M b x) (b + 14) 3 (R_lw M b x (b + 14) 3 + 1)) (x := x) hS hs (ja_up_row (by omega))
      obtain ⟨g1, g2⟩ := P_str_n (mem := ja_up (R_lw M b x) (b + 14) 3 (R_lw M b x (b + 14) 3 + 1)) (a := b + 9) (n := u 0) (by rw [ja_up_a (by omega), R_lw_o (by omega)]; exact h1) (by omega) (by rw [hlag]; exact hl)
      rw [hlag] at g1
      refine ⟨g1, fun j hj => by rw [g2 j hj, ja_up_a (by omega), R_lw_o (by omega)], fun j => ?_⟩
      rw [P_str_o ⟨by omega, by omega⟩]
      by_cases j3 : j = 3
      · subst j3
        rw [ja_up_s, R_lw_o (by omega), if_pos rfl]
      · rw [ja_up_j j3, R_lw_o (by omega), if_neg j3]
        split <;> omega
    · rw [if_neg (fun q => hlng (c2.mp q)), if_neg hlng, show ja_b (N_lng u x) = 0 from if_neg hlng]
      refine ⟨?_, fun j hj => by rw [P_pts_j hj, R_lw_o (by omega)], fun j => ?_⟩
      · rw [P_pts_n (by rw [R_lw_o (by omega), h1]; omega) (by rw [R_lw_o (by omega), h1]; omega), R_lw_o (by omega), h1]
        omega
      · rw [P_pts_o ⟨by omega, by omega⟩, R_lw_o (by omega)]
        split
        · omega
        · split <;> omega
theorem C_co_j {mem : ja_M} {a j : Nat} (h2 : j ≠ 2) (h7 : j ≠ 7) (h8 : j ≠ 8) : C_co mem a a j = mem a j := by
  unfold C_co
  rw [ja_up_j h8, ja_up_j h7, ja_up_j h2]
theorem C_kn_v {mem : ja_M} {a j : Nat} {k : Int} (hk : k = 1 ∨ k = 2) (h7 : j ≠ 7) : C_kn mem a k a j = mem a j + if (j : Int) + 1 = k then 1 else 0 := by
  unfold C_kn
  rw [ja_up_j h7]
  rcases hk with rfl | rfl
  · rw [if_pos rfl]
    by_cases hj : j = 0
    · subst hj
      rw [ja_up_s, if_pos (by decide)]
    · rw [ja_up_j hj, if_neg (by omega)]
      omega
  · rw [if_neg (by decide)]
    by_cases hj : j = 1
    · subst hj
      rw [ja_up_s, if_pos (by decide)]
    · rw [ja_up_j hj, if_neg (by omega)]
      omega
theorem S_p_tf {mem : ja_M} {b : Nat} {v : Nat → Int} {t : Int} (hO : N_O v t) (hn : v 11 ≤ 999) (hs : ∀ j, j < 9 → mem (b + 1) j = v j) (hf : S_f mem b v) (hw : S_w mem b v) (hp : S_p mem b v) : S_p (R_tf mem b (mem (b + 9) 6)) b (N_tk v) := by
  have hC := hO.1.C
  have hS := hO.1.S
  have h0 := hS.1
  have hst := F_st_v hO.1 hs hf (x := v 11) ⟨by omega, hn⟩
  have hF := hO.1.F (j := (30 + v 11).toNat) (by omega) (by omega)
  obtain ⟨⟨p1, p2, p4, p6⟩, hkd, c0, c1, c2, c3, c4, c5, c6, c7, c8⟩ := id hp
  unfold R_tf
  rw [p6, hst]
  by_cases hz : v (30 + v 11).toNat = 0
  · have hk3 : N_kd v (v 11) = 3 := by
      unfold N_kd
      rw [if_neg (by omega), if_neg (by omega)]
    rw [if_pos hz]
    obtain ⟨u13, u14, u22, uu⟩ := N_tu_3 hk3
    obtain ⟨hr, h14⟩ := P_con_rw (mem := mem) (b := b) (n := mem (b + 1) 0) (g := mem (b + 14) 7 + 1) (by rw [hs 0 (by omega)]; omega)
    have e : ∀ j : Nat, j ≠ 11 → j < 2310 → N_tk v j = N_tu v j + if (j : Int) = 18 + 3 then 1 else 0 := fun j a c => by
      have := N_tk_e v a c
      rw [hk3] at this
      exact this
    refine S_p_tk hO hn hp ?_ ?_
    · rw [hk3, e 22 (by omega) (by omega), u22, if_neg (by decide), show ((v 0).toNat : Int) + 0 = mem (b + 1) 0 by rw [hs 0 (by omega)]; omega]
      exact hr
    · obtain ⟨k7, k8, k2⟩ := @C_co_s mem (b + 14)
      rw [h14, e 19 (by omega) (by omega), e 20 (by omega) (by omega), e 21 (by omega) (by omega), e 15 (by omega) (by omega), e 16 (by omega) (by omega), e 17 (by omega) (by omega), e 18 (by omega) (by omega), e 13 (by omega) (by omega), e 14 (by omega) (by omega), u13, u14, uu 19 (by omega) (by omega), uu 20 (by omega) (by omega), uu 21 (by omega) (by omega), uu 15 (by omega) (by omega), uu 16 (by omega) (by omega), uu 17 (by omega) (by omega), uu 18 (by omega) (by omega), C_co_j (j := 0) (by omega) (by omega) (by omega), C_co_j (j := 1) (by omega) (by omega) (by omega), C_co_j (j := 3) (by omega) (by omega) (by omega), C_co_j (j := 4) (by omega) (by omega) (by omega), C_co_j (j := 5) (by omega) (by omega) (by omega), C_co_j (j := 6) (by omega) (by omega) (by omega), k7, k8, k2, c0, c1, c2, c3, c4, c5, c6, c7, c8]
      refine ⟨?_, ?_, ?_, ?_, ?_, ?_, ?_, ?_, ?_⟩
      · rw [if_neg (by decide)]; omega
      · rw [if_neg (by decide)]; omega
      · rw [if_pos (by decide)]
      · rw [if_neg (by decide)]; omega
      · rw [if_neg (by decide)]; omega
      · rw [if_neg (by decide)]; omega
      · rw [if_neg (by decide)]; omega
      · rw [if_neg (by decide)]; omega
      · rw [if_neg (show ¬ ((14 : Nat) : Int) = 18 + 3 by decide)]; omega
  · rw [if_neg hz]
    obtain ⟨k, hk⟩ : ∃ k : Int, k = if v (30 + v 11).toNat = 2 then 1 else 2 := ⟨_, rfl⟩
    have hk12 : k = 1 ∨ k = 2 := by
      rw [hk]
      split <;> omega
    have hkk : N_kd v (v 11) = k := by
      rw [hk]
      unfold N_kd
      split
      · rfl
      · rw [if_pos (by omega)]
    rw [← hk]
    have hR0 : N_R (N_t0 v) := (hO.1.rs (i := 22) (show (0 : Int) ≤ 0 ∧ (0 : Int) ≤ 24 by omega)).rs (i := 23) (show (0 : Int) ≤ 0 ∧ (0 : Int) ≤ 24 by omega)
    have hRu : N_R (ja_rs (N_t0 v) 13 0) := hR0.rs (show (0 : Int) ≤ 0 ∧ (0 : Int) ≤ 1000 by omega)
    have uj : ∀ j, j ≠ 13 → j ≠ 22 → j ≠ 23 → ja_rs (N_t0 v) 13 0 j = v j := fun j a c d => by
      unfold N_t0
      rw [ja_rs_n a, ja_rs_n d, ja_rs_n c]
    have u22 : ja_rs (N_t0 v) 13 0 22 = 0 := by
      unfold N_t0
      rw [ja_rs_n (by omega), ja_rs_n (by omega), ja_rs_s]
    have u13 : ja_rs (N_t0 v) 13 0 13 = 0 := ja_rs_s _ _ _
    have etu : N_tu v = N_fi (ja_rs (N_t0 v) 13 0) (v 11) := if_neg (by omega)
    generalize ja_rs (N_t0 v) 13 0 = u at *
    have hrow : ∀ q, q ≠ b + 9 → q ≠ b + 12 → q ≠ b + 14 → P_beg (C_kn mem (b + 14) k) (b + 9) k q = mem q := fun q a c d => by rw [P_beg_o ⟨a, c⟩, C_kn_o d]
    have hb14 : P_beg (C_kn mem (b + 14) k) (b + 9) k (b + 14) = C_kn mem (b + 14) k (b + 14) := P_beg_o ⟨by omega, by omega⟩
    obtain ⟨q1, q2, q4, q6⟩ := @P_beg_s (C_kn mem (b + 14) k) (b + 9) k
    have q12 := P_beg_3 (mem := C_kn mem (b + 14) k) (a := b + 9) (k := k)
    rw [C_kn_o (by omega)] at q4 q6
    rw [C_kn_o (show b + 9 ≠ b + 14 by omega), C_kn_o (show b + 9 + 3 ≠ b + 14 by omega)] at q12
    generalize P_beg (C_kn mem (b + 14) k) (b + 9) k = M at *
    have hsM : ∀ j, j < 9 → M (b + 1) j = u j := fun j hj => by
      rw [hrow _ (by omega) (by omega) (by omega), uj j (by omega) (by omega) (by omega)]
      exact hs j hj
    have hfM : S_f M b u := S_f_cg hS (fun q a c => hrow q (by omega) (by omega) (by omega)) (fun j hj => uj j (by omega) (by omega) (by omega)) hf
    have hwM : S_w M b u := S_w_cg (fun q a c => hrow q (by omega) (by omega) (by omega)) (fun j hj => uj j (by omega) (by omega) (by omega)) hw
    obtain ⟨g1, g2, g3, g4⟩ := R_pkn_N (x := v 11) hRu.S hsM q1 (T_spr_N hRu.S hsM hwM) (R_lv_N hRu hsM hfM ⟨by omega, by omega⟩)
    obtain ⟨f22, f15, f16, ff⟩ := N_fi_v (x := v 11) hRu.S u22
    have e : ∀ j : Nat, j ≠ 11 → j < 2310 → N_tk v j = N_fi u (v 11) j + if (j : Int) = 18 + k then 1 else 0 := fun j a c => by
      have := N_tk_e v a c
      rw [hkk, etu] at this
      exact this
    refine S_p_tk hO hn hp ⟨⟨?_, ?_, ?_, ?_⟩, fun j => ?_⟩ ?_
    · rw [g1, e 22 (by omega) (by omega), f22, if_neg (by omega)]
      omega
    · rw [g2 2 (by omega)]
      exact q2
    · rw [g2 4 (by omega)]
      exact q4
    · rw [g2 6 (by omega)]
      exact q6
    · rw [g3 _ (by omega) (by omega) (by omega) (by omega), hkk]
      exact q12 j
    · have C7 := (@C_kn_s mem (b + 14) k).1
      rw [g4 0, g4 1, g4 2, g4 3, g4 4, g4 5, g4 6, g4 7, g4 8, hb14, C_kn_v hk12 (by omega), C_kn_v hk12 (by omega), C_kn_v hk12 (by omega), C_kn_v hk12 (by omega), C_kn_v hk12 (by omega), C_kn_v hk12 (by omega), C_kn_v hk12 (by omega), C7, C_kn_v hk12 (by omega), e 19 (by omega) (by omega), e 20 (by omega) (by omega), e 21 (by omega) (by omega), e 15 (by omega) (by omega), e 16 (by omega) (by omega), e 17 (by omega) (by omega), e 18 (by omega) (by omega), e 13 (by omega) (by omega), e 14 (by omega) (by omega), f15, f16, ff 19 (by omega) (by omega) (by omega) (by omega), ff 20 (by omega) (by omega) (by omega) (by omega), ff 21 (by omega) (by omega) (by omega) (by omega), ff 17 (by omega) (by omega) (by omega) (by omega), ff 18 (by omega) (by omega) (by omega) (by omega), ff 13 (by omega) (by omega) (by omega) (by omega), ff 14 (by omega) (by omega) (by omega) (by omega), u13, uj 19 (by omega) (by omega) (by omega), uj 20 (by omega) (by omega) (by omega), uj 21 (by omega) (by omega) (by omega), uj 15 (by omega) (by omega) (by omega), uj 16 (by omega) (by omega) (by omega), uj 17 (by omega) (by omega) (by omega), uj 18 (by omega) (by omega) (by omega), uj 14 (by omega) (by omega) (by omega), c0, c1, c2, c3, c4, c5, c6, c8]
      rcases hk12 with rfl | rfl
      · refine ⟨?_, ?_, ?_, ?_, ?_, ?_, ?_, ?_, ?_⟩ <;> simp <;> try omega
      · refine ⟨?_, ?_, ?_, ?_, ?_, ?_, ?_, ?_, ?_⟩ <;> simp <;> try omega
/-- a sample goes out -/
theorem S_p_out {mem : ja_M} {b : Nat} {v : Nat → Int} {t : Int} (hO : N_O v t) (h : S_p mem b v) : S_p (P_out mem (b + 9)) b (N_t3 v) := by
  have hC := hO.1.C
  obtain ⟨⟨p1, p2, p4, p6⟩, hkd, hc⟩ := id h
  unfold P_out N_t3
  rw [p1, p2]
  by_cases hq : v 23 < v 22
  · rw [if_pos hq, if_pos hq]
    have en : ∀ j, j ≠ 12 → j ≠ 23 → (j < 2054 ∨ 2310 ≤ j) → ja_rs (ja_rs (ja_rs v (2054 + v 12 % 256).toNat (v (2342 + v 23).toNat)) 12 (v 12 + 1)) 23 (v 23 + 1) j = v j := fun j a1 a2 a3 => by rw [ja_rs_n a2, ja_rs_n a1, ja_rs_n (by omega)]
    have e12 : ja_rs (ja_rs (ja_rs v (2054 + v 12 % 256).toNat (v (2342 + v 23).toNat)) 12 (v 12 + 1)) 23 (v 23 + 1) 12 = v 12 + 1 := by rw [ja_rs_n (by omega), ja_rs_s]
    have e23 : ja_rs (ja_rs (ja_rs v (2054 + v 12 % 256).toNat (v (2342 + v 23).toNat)) 12 (v 12 + 1)) 23 (v 23 + 1) 23 = v 23 + 1 := ja_rs_s _ _ _
    generalize ja_rs (ja_rs (ja_rs v (2054 + v 12 % 256).toNat (v (2342 + v 23).toNat)) 12 (v 12 + 1)) 23 (v 23 + 1) = w at *
    unfold S_p
    rw [e12, e23, en 22 (by omega) (by omega) (by omega), en 11 (by omega) (by omega) (by omega), en 19 (by omega) (by omega) (by omega), en 20 (by omega) (by omega) (by omega), en 21 (by omega) (by omega) (by omega), en 15 (by omega) (by omega) (by omega), en 16 (by omega) (by omega) (by omega), en 17 (by omega) (by omega) (by omega), en 18 (by omega) (by omega) (by omega), en 13 (by omega) (by omega) (by omega), en 14 (by omega) (by omega) (by omega)]
    rw [ja_up_row (show b + 12 ≠ b + 9 by omega), ja_up_row (show b + 12 ≠ b + 9 by omega), ja_up_row (show b + 12 ≠ b + 9 + 2 by omega), ja_up_row (show b + 14 ≠ b + 9 by omega), ja_up_row (show b + 14 ≠ b + 9 by omega), ja_up_row (show b + 14 ≠ b + 9 + 2 by omega)]
    refine ⟨⟨?_, ?_, ?_, ?_⟩, fun i i1 i2 => by rw [en _ (by omega) (by omega) (by omega)]; exact hkd i i1 i2, hc⟩
    · rw [ja_up_j (by omega), ja_up_j (by omega), ja_up_a (by omega)]
      exact p1
    · rw [ja_up_s]
    · rw [ja_up_j (by omega), ja_up_s, p4]
    · rw [ja_up_j (by omega), ja_up_j (by omega), ja_up_a (by omega)]
      exact p6
  · rw [if_neg hq, if_neg hq]
    exact h
theorem S_p_pl {mem : ja_M} {b : Nat} {v : Nat → Int} {t : Int} (hO : N_O v t) (hb : S_b mem b v) (hf : S_f mem b v) (hw : S_w mem b v) (hp : S_p mem b v) : S_p (R_pl mem b) b (N_pl v) := by
  obtain ⟨b1, b6, bs, -⟩ := hb
  obtain ⟨⟨p1, p2, p4, p6⟩, -⟩ := id hp
  have hon : (mem b 7 ≠ 0 ∧ mem b 8 ≤ mem b 6) ↔ N_on v := by
    unfold N_on
    rcases bs with ⟨s7, s10⟩ | ⟨s7, s10, s8⟩
    · constructor
      · rintro ⟨a, -⟩
        exact absurd s7 a
      · rintro ⟨a, -⟩
        omega
    · rw [s8, b6]
      constructor
      · rintro ⟨a, c⟩
        exact ⟨s10, c⟩
      · rintro ⟨a, c⟩
        exact ⟨by omega, c⟩
  unfold R_pl N_pl
  by_cases hq : N_on v
  · rw [if_pos hq, if_pos (hon.mpr hq)]
    refine S_p_out (N_t2_O hO).1 ?_
    unfold N_t2
    by_cases hc : v 23 = v 22 ∧ v 11 ≤ 999
    · rw [if_pos hc, if_pos (by rw [p1, p2, p6]; omega)]
      exact S_p_cg (fun _ _ => rfl) rfl rfl (fun j hj => ja_rs_n (by omega)) (S_p_tf hO hc.2 b1 hf hw hp)
    · rw [if_neg hc, if_neg (by rw [p1, p2, p6]; omega)]
      exact hp
  · rw [if_neg hq, if_neg (fun q => hq (hon.mp q))]
    exact hp
