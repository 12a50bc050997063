-- WHAT HOLDS OF EVERY STREAM: COUNTS BELONG TOGETHER
def G_v (v : Nat → Int) : Prop := v 19 + v 20 + v 21 = v 11 ∧ (0 ≤ v 19 ∧ 0 ≤ v 20) ∧ (0 ≤ v 15 ∧ 0 ≤ v 16 ∧ v 15 + v 16 ≤ v 19 + v 20) ∧ (v 13 ≤ v 14 ∧ v 13 ≤ v 21 ∧ v 14 ≤ v 21 ∧ (v 21 = 0 ∨ 0 < v 14)) ∧ (2 * v 11 ≤ v 12 + v 22 - v 23 ∧ v 22 ≤ v 0 + v 0 / 2) ∧ ∀ i : Nat, i < 32 → (i : Int) < v 11 → 1 ≤ v (2310 + i) ∧ v (2310 + i) ≤ 3
/-- what an arrival leaves -/
def N_kg (v w : Nat → Int) : Prop := ∀ j, (j < 9 ∨ (11 ≤ j ∧ j ≤ 16) ∨ (19 ≤ j ∧ j ≤ 23) ∨ (2310 ≤ j ∧ j < 2342)) → w j = v j
theorem N_kg.rf {v : Nat → Int} : N_kg v v := fun _ _ => rfl
theorem N_kg.tr {u v w : Nat → Int} (h : N_kg u v) (h2 : N_kg v w) : N_kg u w := fun j hj => (h2 j hj).trans (h j hj)
theorem G_kg {v w : Nat → Int} (h : N_kg v w) (hG : G_v v) : G_v w := by
  obtain ⟨g1, g2, g3, g4, g5, g6⟩ := hG
  unfold G_v
  rw [h 19 (by omega), h 20 (by omega), h 21 (by omega), h 11 (by omega), h 15 (by omega), h 16 (by omega), h 13 (by omega), h 14 (by omega), h 12 (by omega), h 22 (by omega), h 23 (by omega), h 0 (by omega)]
  exact ⟨g1, g2, g3, g4, g5, fun i i1 i2 => by rw [h _ (by omega)]; exact g6 i i1 i2⟩
theorem N_av_kg {v : Nat → Int} {t x : Int} (h : N_O v t) (ht : t ≤ 900000) (hx : 0 ≤ x ∧ x ≤ 999) : N_kg v (N_av v x) := by
  have hw := N_aw_O h ht hx
  have hs := N_aw_ss h ht hx
  have hB : N_hB (N_aw v x) (x / N_ar v) := hs.hB.mpr (N_blk h.1.S hx)
  intro j hj
  unfold N_av
  split
  · exact ja_rs_n (by omega)
  · rw [(N_rs_fr (a := 0) 40 0 (N_aw v x) hw.1.S hB).1 j (by omega), (N_aw_o h ht hx).1 j (by omega) (by omega) (by omega) (by omega), ja_rs_n (by omega)]
theorem N_qv_kg {v : Nat → Int} {t r k i : Int} (h : N_O v t) (ht : t ≤ 900000) (hk : N_hB v k) (hi : 0 ≤ i ∧ i ≤ 6) : N_kg v (N_qv v r k i) := by
  obtain ⟨hw, hwk, hs⟩ := N_qw_O (r := r) h ht hk hi
  have hB : N_hB (N_qw v r k i) k := hs.hB.mpr hk
  have hp := N_pk_in (r := r) h.1.S hk hi
  intro j hj
  unfold N_qv
  split
  · exact ja_rs_n (by omega)
  · rw [(N_rs_fr (a := 0) 40 0 (N_qw v r k i) hw.1.S hB).1 j (by omega)]
    unfold N_qw
    rw [ja_rs_n (by omega), N_be_n (by omega)]
theorem N_ab_kg {v : Nat → Int} {t : Int} (h : N_O v t) (ht : t ≤ 900000) : ∀ i : Nat, (i : Int) ≤ v 25 → N_kg v (N_ab v i).2
  | 0, _ => N_kg.rf
  | i + 1, hi => by
    have ih := N_ab_kg h ht i (by omega)
    obtain ⟨hO, ⟨l0, l1⟩, hk⟩ := N_ab_O h ht i (by omega)
    have hc := hO.1.C
    have h25 := hk 25 (by omega) (by omega)
    have hpe := hO.2.2 (i : Int) (by omega) (by omega)
    have hp1 := hO.1.P (j := (2388 + 4 * (i : Int) + 1).toNat) (by omega) (by omega)
    simp only [N_ab]
    generalize (N_ab v i).2 = w at *
    generalize (N_ab v i).1 = l at *
    split
    · dsimp only
      split
      · rename_i hz
        exact ih.tr (N_av_kg hO ht ⟨hp1.1, hpe.2.1 hz⟩)
      · rename_i hz
        have hh := hpe.2.2 hz
        exact ih.tr (N_qv_kg (r := if w (2388 + 4 * (i : Int)).toNat = 1 then 1 else 0) hO ht hh.1 (N_hP_6 hO.1.S hh))
    · dsimp only
      exact ih.tr (fun q hq => N_c4_n 4 (fun c hc => by omega))
theorem N_t1_kg {v : Nat → Int} {t : Int} (h : N_O v t) (ht : t ≤ 900000) : N_kg v (N_t1 v) := by
  have hC := h.1.C
  have hb := N_ab_kg h ht (v 25).toNat (by omega)
  intro j hj
  unfold N_t1 N_as
  rw [ja_rs_n (by omega), ja_rs_n (by omega)]
  exact hb j hj
theorem G_tk {v : Nat → Int} {t : Int} (hO : N_O v t) (hn : v 11 ≤ 999) (h23 : v 23 = v 22) (hG : G_v v) : G_v (N_tk v) ∧ N_tk v 22 ≥ 2 := by
  obtain ⟨g1, g2, g3, g4, g5, g6⟩ := hG
  obtain ⟨-, k11, k23, kk⟩ := N_tk_O hO hn
  have hC := hO.1.C
  have hS := hO.1.S
  have h0 := hS.1
  have hkd := @N_kd_in v (v 11)
  have hkinds : ∀ i : Nat, i < 32 → (i : Int) < v 11 + 1 → 1 ≤ N_tk v (2310 + i) ∧ N_tk v (2310 + i) ≤ 3 := fun i i1 i2 => by
    rw [N_tk_kd hO hn i i1]
    by_cases hi : i = 0
    · rw [if_pos hi]
      exact hkd
    · rw [if_neg hi, show 2310 + i - 1 = 2310 + (i - 1) by omega]
      exact g6 (i - 1) (by omega) (by omega)
  have e : ∀ j : Nat, j ≠ 11 → j < 2310 → N_tk v j = N_tu v j + if (j : Int) = 18 + N_kd v (v 11) then 1 else 0 := fun j a c => N_tk_e v a c
  by_cases hk3 : N_kd v (v 11) = 3
  · obtain ⟨u13, u14, u22, uu⟩ := N_tu_3 hk3
    rw [hk3] at e
    have e19 := e 19 (by omega) (by omega)
    have e20 := e 20 (by omega) (by omega)
    have e21 := e 21 (by omega) (by omega)
    have e15 := e 15 (by omega) (by omega)
    have e16 := e 16 (by omega) (by omega)
    have e13 := e 13 (by omega) (by omega)
    have e14 := e 14 (by omega) (by omega)
    have e22 := e 22 (by omega) (by omega)
    rw [if_neg (by decide)] at e19 e20 e15 e16 e13 e14 e22
    rw [if_pos (by decide)] at e21
    rw [uu 19 (by omega) (by omega)] at e19
    rw [uu 20 (by omega) (by omega)] at e20
    rw [uu 21 (by omega) (by omega)] at e21
    rw [uu 15 (by omega) (by omega)] at e15
    rw [uu 16 (by omega) (by omega)] at e16
    rw [u13] at e13
    rw [u14] at e14
    rw [u22] at e22
    unfold G_v
    rw [e19, e20, e21, e15, e16, e13, e14, e22, k11, k23, kk 12 (by omega), kk 0 (by omega)]
    refine ⟨⟨by omega, by omega, by omega, ?_, by omega, hkinds⟩, by omega⟩
    split <;> omega
  · have etu : N_tu v = N_fi (ja_rs (N_t0 v) 13 0) (v 11) := if_neg hk3
    have hR0 : N_R (N_t0 v) := (hO.1.rs (i := 22) (show (0 : Int) ≤ 0 ∧ (0 : Int) ≤ 24 by omega)).rs (i := 23) (show (0 : Int) ≤ 0 ∧ (0 : Int) ≤ 24 by omega)
    have hRu : N_R (ja_rs (N_t0 v) 13 0) := hR0.rs (show (0 : Int) ≤ 0 ∧ (0 : Int) ≤ 1000 by omega)
    have uj : ∀ j, j ≠ 13 → j ≠ 22 → j ≠ 23 → ja_rs (N_t0 v) 13 0 j = v j := fun j a c d => by
      unfold N_t0
      rw [ja_rs_n a, ja_rs_n d, ja_rs_n c]
    have u22 : ja_rs (N_t0 v) 13 0 22 = 0 := by
      unfold N_t0
      rw [ja_rs_n (by omega), ja_rs_n (by omega), ja_rs_s]
    have u13 : ja_rs (N_t0 v) 13 0 13 = 0 := ja_rs_s _ _ _
    rw [etu] at e
    generalize ja_rs (N_t0 v) 13 0 = u at *
    obtain ⟨f22, f15, f16, ff⟩ := N_fi_v (x := v 11) hRu.S u22
    have hl := @N_lf_in u (v 11) hRu.S
    have u0 := uj 0 (by omega) (by omega) (by omega)
    have hbs : ja_b (N_sht u (v 11)) + ja_b (N_lng u (v 11)) ≤ 1 ∧ 0 ≤ ja_b (N_sht u (v 11)) ∧ 0 ≤ ja_b (N_lng u (v 11)) ∧ 2 ≤ N_ln u (v 11) ∧ N_ln u (v 11) ≤ v 0 + v 0 / 2 := by
      unfold N_ln
      by_cases q1 : N_sht u (v 11)
      · have q2 : ¬ N_lng u (v 11) := fun q => by
          have a1 := q1.2
          have a2 := q.2
          omega
        rw [show ja_b (N_sht u (v 11)) = 1 from if_pos q1, show ja_b (N_lng u (v 11)) = 0 from if_neg q2, if_pos q1]
        omega
      · rw [show ja_b (N_sht u (v 11)) = 0 from if_neg q1, if_neg q1]
        by_cases q2 : N_lng u (v 11)
        · rw [show ja_b (N_lng u (v 11)) = 1 from if_pos q2, if_pos q2]
          omega
        · rw [show ja_b (N_lng u (v 11)) = 0 from if_neg q2, if_neg q2]
          omega
    have e19 := e 19 (by omega) (by omega)
    have e20 := e 20 (by omega) (by omega)
    have e21 := e 21 (by omega) (by omega)
    have e15 := e 15 (by omega) (by omega)
    have e16 := e 16 (by omega) (by omega)
    have e13 := e 13 (by omega) (by omega)
    have e14 := e 14 (by omega) (by omega)
    have e22 := e 22 (by omega) (by omega)
    rw [if_neg (by omega)] at e21 e15 e16 e13 e14 e22
    rw [ff 19 (by omega) (by omega) (by omega) (by omega), uj 19 (by omega) (by omega) (by omega)] at e19
    rw [ff 20 (by omega) (by omega) (by omega) (by omega), uj 20 (by omega) (by omega) (by omega)] at e20
    rw [ff 21 (by omega) (by omega) (by omega) (by omega), uj 21 (by omega) (by omega) (by omega)] at e21
    rw [f15, uj 15 (by omega) (by omega) (by omega)] at e15
    rw [f16, uj 16 (by omega) (by omega) (by omega)] at e16
    rw [ff 13 (by omega) (by omega) (by omega) (by omega), u13] at e13
    rw [ff 14 (by omega) (by omega) (by omega) (by omega), uj 14 (by omega) (by omega) (by omega)] at e14
    rw [f22] at e22
    have hs : (if ((19 : Nat) : Int) = 18 + N_kd v (v 11) then (1 : Int) else 0) + (if ((20 : Nat) : Int) = 18 + N_kd v (v 11) then 1 else 0) = 1 ∧ 0 ≤ (if ((19 : Nat) : Int) = 18 + N_kd v (v 11) then (1 : Int) else 0) ∧ 0 ≤ (if ((20 : Nat) : Int) = 18 + N_kd v (v 11) then (1 : Int) else 0) := by
      rcases (show N_kd v (v 11) = 1 ∨ N_kd v (v 11) = 2 by omega) with q | q
      · rw [q]
        decide
      · rw [q]
        decide
    generalize (if ((19 : Nat) : Int) = 18 + N_kd v (v 11) then (1 : Int) else 0) = s1 at *
    generalize (if ((20 : Nat) : Int) = 18 + N_kd v (v 11) then (1 : Int) else 0) = s2 at *
    unfold G_v
    rw [e19, e20, e21, e15, e16, e13, e14, e22, k11, k23, kk 12 (by omega), kk 0 (by omega)]
    exact ⟨⟨by omega, by omega, by omega, by omega, by omega, hkinds⟩, by omega⟩
theorem G_pl {a : Nat → Int} {t : Int} (hO : N_O a t) (hG : G_v a) : G_v (N_pl a) := by
  have h2 : G_v (N_t2 a) := by
    unfold N_t2
    split
    · rename_i hc
      exact G_kg (fun j hj => ja_rs_n (by omega)) (G_tk hO hc.2 hc.1 hG).1
    · exact hG
  have hC := (N_t2_O hO).1.1.C
  unfold N_pl
  split
  · unfold N_t3
    split
    · obtain ⟨g1, g2, g3, g4, g5, g6⟩ := h2
      have en : ∀ j, j ≠ 12 → j ≠ 23 → (j < 2054 ∨ 2310 ≤ j) → ja_rs (ja_rs (ja_rs (N_t2 a) (2054 + N_t2 a 12 % 256).toNat (N_t2 a (2342 + N_t2 a 23).toNat)) 12 (N_t2 a 12 + 1)) 23 (N_t2 a 23 + 1) j = N_t2 a j := fun j a1 a2 a3 => by rw [ja_rs_n a2, ja_rs_n a1, ja_rs_n (by omega)]
      have e12 : ja_rs (ja_rs (ja_rs (N_t2 a) (2054 + N_t2 a 12 % 256).toNat (N_t2 a (2342 + N_t2 a 23).toNat)) 12 (N_t2 a 12 + 1)) 23 (N_t2 a 23 + 1) 12 = N_t2 a 12 + 1 := by rw [ja_rs_n (by omega), ja_rs_s]
      have e23 : ja_rs (ja_rs (ja_rs (N_t2 a) (2054 + N_t2 a 12 % 256).toNat (N_t2 a (2342 + N_t2 a 23).toNat)) 12 (N_t2 a 12 + 1)) 23 (N_t2 a 23 + 1) 23 = N_t2 a 23 + 1 := ja_rs_s _ _ _
      generalize ja_rs (ja_rs (ja_rs (N_t2 a) (2054 + N_t2 a 12 % 256).toNat (N_t2 a (2342 + N_t2 a 23).toNat)) 12 (N_t2 a 12 + 1)) 23 (N_t2 a 23 + 1) = w at *
      unfold G_v
      rw [e12, e23, en 19 (by omega) (by omega) (by omega), en 20 (by omega) (by omega) (by omega), en 21 (by omega) (by omega) (by omega), en 11 (by omega) (by omega) (by omega), en 15 (by omega) (by omega) (by omega), en 16 (by omega) (by omega) (by omega), en 13 (by omega) (by omega) (by omega), en 14 (by omega) (by omega) (by omega), en 22 (by omega) (by omega) (by omega), en 0 (by omega) (by omega) (by omega)]
      exact ⟨g1, g2, g3, g4, by omega, fun i i1 i2 => by rw [en _ (by omega) (by omega) (by omega)]; exact g6 i i1 i2⟩
    · exact h2
  · exact hG
theorem G_ti {v : Nat → Int} {t : Int} (hO : N_O v t) (ht : t ≤ 900000) (hG : G_v v) : G_v (N_ti v) := by
  have h1 := G_pl (N_t1_O hO ht) (G_kg (N_t1_kg hO ht) hG)
  unfold N_ti
  exact G_kg (fun j hj => ja_rs_n (by omega)) h1
theorem G_ad {v : Nat → Int} {t : Int} (hO : N_O v t) (hG : G_v v) : ∀ k : Nat, t + k ≤ 900001 → G_v (N_ad v k)
  | 0, _ => hG
  | k + 1, hk => G_ti (N_ad_O hO k (by omega)) (by omega) (G_ad hO hG k (by omega))
theorem G_v0 : G_v N_v0 := by
  refine ⟨by decide, by decide, by decide, by decide, by decide, fun i _ hi => ?_⟩
  rw [N_v0_z (by omega) (by omega)] at hi
  omega
-- what is predicted
theorem N_xg_v : ∀ (r i : Nat) (v : Nat → Int), (N_xg r i v = -1004 ∧ ∀ j, j < r → ¬ N_ti (N_ad v j) 27 = 3) ∨ ∃ g : Nat, g < r ∧ N_xg r i v = ((i + g : Nat) : Int) ∧ N_ti (N_ad v g) 27 = 3 ∧ ∀ j, j < g → ¬ N_ti (N_ad v j) 27 = 3
  | 0, i, v => Or.inl ⟨rfl, fun j hj => by omega⟩
  | r + 1, i, v => by
    have sh : ∀ k, N_ad (N_ti v) k = N_ad v (k + 1) := fun k => by
      induction k with
      | zero => rfl
      | succ k ih =>
        show N_ti (N_ad (N_ti v) k) = N_ti (N_ad v (k + 1))
        rw [ih]
    simp only [N_xg]
    by_cases hq : N_ti v 27 = 3
    · rw [if_pos hq]
      exact Or.inr ⟨0, by omega, rfl, hq, fun j hj => by omega⟩
    · rw [if_neg hq]
      rcases N_xg_v r (i + 1) (N_ti v) with ⟨h1, h2⟩ | ⟨g, g1, g2, g3, g4⟩
      · refine Or.inl ⟨h1, fun j hj => ?_⟩
        cases j with
        | zero => exact hq
        | succ j =>
          rw [← sh]
          exact h2 j (by omega)
      · refine Or.inr ⟨g + 1, by omega, by rw [g2]; congr 1; omega, by rw [← sh]; exact g3, fun j hj => ?_⟩
        cases j with
        | zero => exact hq
        | succ j =>
          rw [← sh]
          exact g4 j (by omega)
theorem N_ag_0 {v : Nat → Int} : ∀ k : Nat, (∀ j, j < k → ¬ N_ti (N_ad v j) 27 = 3) → N_ag v k = 0
  | 0, _ => rfl
  | k + 1, h => by
    simp only [N_ag]
    rw [N_ag_0 k (fun j hj => h j (by omega)), if_neg (h k (by omega))]
    rfl
theorem N_ag_ge {v : Nat → Int} : ∀ k : Nat, 0 ≤ N_ag v k
  | 0 => by simp [N_ag]
  | k + 1 => by
    have := @N_ag_ge v k
    simp only [N_ag]
    split <;> omega
theorem N_ag_p {v : Nat → Int} {g : Nat} (h : N_ti (N_ad v g) 27 = 3) : ∀ k : Nat, g < k → 0 < N_ag v k
  | 0, hk => by omega
  | k + 1, hk => by
    have h0 := @N_ag_ge v k
    simp only [N_ag]
    by_cases hg : g = k
    · subst hg
      rw [if_pos h]
      omega
    · have := N_ag_p h k (by omega)
      split <;> omega
/-- a tick takes one frame or none; if one, a sample goes out -/
theorem N_ti_11 {v : Nat → Int} {t : Int} (hO : N_O v t) (ht : t ≤ 900000) (hG : G_v v) : (N_ti v 11 = v 11 ∧ ¬ N_ti v 27 = 3) ∨ (N_ti v 11 = v 11 + 1 ∧ N_to v = 1 ∧ v 11 ≤ 999) := by
  have hOt := N_t1_O hO ht
  have hGt := G_kg (N_t1_kg hO ht) hG
  have e11 : N_t1 v 11 = v 11 := N_t1_kg hO ht 11 (by omega)
  have e27 : N_t1 v 27 = 0 := by
    unfold N_t1
    rw [ja_rs_s]
  have hC := (N_t2_O hOt).1.1.C
  have t3 : ∀ j, j = 11 ∨ j = 27 → N_t3 (N_t2 (N_t1 v)) j = N_t2 (N_t1 v) j := fun j hj => by
    unfold N_t3
    split
    · rw [ja_rs_n (by omega), ja_rs_n (by omega), ja_rs_n (by omega)]
    · rfl
  unfold N_ti N_to N_pl
  rw [ja_rs_n (by omega), ja_rs_n (by omega)]
  by_cases hon : N_on (N_t1 v)
  · rw [if_pos hon, t3 11 (by omega), t3 27 (by omega)]
    by_cases hc : N_t1 v 23 = N_t1 v 22 ∧ N_t1 v 11 ≤ 999
    · obtain ⟨-, k11, k23, -⟩ := N_tk_O hOt hc.2
      have k22 := (G_tk hOt hc.2 hc.1 hGt).2
      have e2 : N_t2 (N_t1 v) = ja_rs (N_tk (N_t1 v)) 27 (N_tk (N_t1 v) 2310) := if_pos hc
      right
      rw [e2, ja_rs_n (show 11 ≠ 27 by omega), ja_rs_n (show 23 ≠ 27 by omega), ja_rs_n (show 22 ≠ 27 by omega), k11, k23, e11]
      exact ⟨rfl, if_pos ⟨hon, by omega⟩, by omega⟩
    · have e2 : N_t2 (N_t1 v) = N_t1 v := if_neg hc
      left
      rw [e2, e11, e27]
      exact ⟨rfl, by decide⟩
  · rw [if_neg hon]
    left
    rw [e11, e27]
    exact ⟨rfl, by decide⟩
theorem N_xf_v {x : Int} : ∀ (r i : Nat) (v : Nat → Int), N_xf x r i v = -1004 ∨ ∃ g : Nat, g < r ∧ N_xf x r i v = ((i + g : Nat) : Int) ∧ x < N_ad v (g + 1) 11 ∧ ∀ j, j < g → N_ad v (j + 1) 11 ≤ x
  | 0, i, v => Or.inl rfl
  | r + 1, i, v => by
    have sh : ∀ k, N_ad (N_ti v) k = N_ad v (k + 1) := fun k => by
      induction k with
      | zero => rfl
      | succ k ih =>
        show N_ti (N_ad (N_ti v) k) = N_ti (N_ad v (k + 1))
        rw [ih]
    simp only [N_xf]
    by_cases hq : x < N_ti v 11
    · rw [if_pos hq]
      exact Or.inr ⟨0, by omega, rfl, hq, fun j hj => by omega⟩
    · rw [if_neg hq]
      rcases N_xf_v r (i + 1) (N_ti v) with h1 | ⟨g, g1, g2, g3, g4⟩
      · exact Or.inl h1
      · refine Or.inr ⟨g + 1, by omega, by rw [g2]; congr 1; omega, by rw [← sh]; exact g3, fun j hj => ?_⟩
        cases j with
        | zero => exact Int.not_lt.mp hq
        | succ j =>
          rw [← sh]
          exact g4 j (by omega)
