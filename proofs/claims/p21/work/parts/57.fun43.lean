-- THE WHOLE TIE, BUT FOR THE SAMPLES PUT OUT
def C6 (v : Nat → Int) : Prop := (2 ≤ v 3 ∧ v 3 ≤ 6) ∧ 2 ≤ v 4 ∧ v 4 ≤ 6
theorem C6_S {v : Nat → Int} (h : C6 v) : ∃ w : Nat → Int, N_S w ∧ w 3 = v 3 ∧ w 4 = v 4 := by
  refine ⟨fun j => if j = 3 then v 3 else if j = 4 then v 4 else N_v0 j, ⟨show 4 ≤ N_v0 0 ∧ N_v0 0 ≤ 16 by decide, show 2 ≤ N_v0 1 ∧ N_v0 1 ≤ 32 by decide, show 1 ≤ N_v0 2 ∧ N_v0 2 ≤ 200 by decide, h.1, h.2, show 0 ≤ N_v0 5 ∧ N_v0 5 ≤ 200 by decide, show 1 ≤ N_v0 6 ∧ N_v0 6 ≤ 100 by decide, show 0 ≤ N_v0 7 ∧ N_v0 7 ≤ 100 by decide, show 0 ≤ N_v0 8 ∧ N_v0 8 ≤ 1 by decide⟩, rfl, rfl⟩
theorem N_S.c6 {v : Nat → Int} (h : N_S v) : C6 v := ⟨h.2.2.2.1, h.2.2.2.2.1⟩
/-- only the blocks' settings count -/
theorem N_34 {v w : Nat → Int} (h3 : w 3 = v 3) (h4 : w 4 = v 4) : N_ar w = N_ar v ∧ (∀ r k i, N_pk w r k i = N_pk v r k i) ∧ ∀ r k i, (N_hP w r k i ↔ N_hP v r k i) := by
  have e : N_ar w = N_ar v := by
    unfold N_ar
    rw [h3, h4]
  refine ⟨e, fun r k i => ?_, fun r k i => ?_⟩
  · unfold N_pk
    rw [h3, h4]
  · simp only [N_hP, N_hB, e, h3, h4]
theorem C6_in {v : Nat → Int} (h : C6 v) : (4 ≤ N_ar v ∧ N_ar v ≤ 36) ∧ (∀ k c : Nat, N_ar v * k + c ≤ 999 → k < 250) ∧ ∀ r k i, N_hP v r k i → (1030 ≤ N_pk v r k i ∧ N_pk v r k i < 2054) ∧ 0 ≤ k ∧ k ≤ 249 := by
  obtain ⟨w, hS, e3, e4⟩ := C6_S h
  obtain ⟨ea, ep, eh⟩ := N_34 e3 e4
  have har := N_ar_in hS
  rw [ea] at har
  refine ⟨har, fun k c hk => ?_, fun r k i hP => ?_⟩
  · have := Int.mul_le_mul_of_nonneg_right har.1 (by omega : 0 ≤ (k : Int))
    omega
  · have hP2 := (eh r k i).mpr hP
    have hp := N_pk_in (r := r) hS hP2.1 (N_hP_6 hS hP2)
    rw [ep] at hp
    exact ⟨hp, (N_bk hS hP2.1).1⟩
theorem S_f_c6 {mem mem' : ja_M} {b b' : Nat} {v v' : Nat → Int} (h6 : C6 v) (hm : ∀ c j, 3 ≤ c → c ≤ 5 → j < 250 → mem' (b' + c) j = mem (b + c) j) (h3 : v' 3 = v 3) (h4 : v' 4 = v 4) (hv : ∀ j, 30 ≤ j → j < 2054 → v' j = v j) (h : S_f mem b v) : S_f mem' b' v' := by
  obtain ⟨har, hk, hpk⟩ := C6_in h6
  obtain ⟨ea, ep, eh⟩ := N_34 h3 h4
  obtain ⟨h1, h2⟩ := h
  refine ⟨fun k c hc hx => ?_, fun r k i r0 r1 hP => ?_⟩
  · rw [ea] at hc hx ⊢
    have h0 := Int.mul_nonneg (by omega : 0 ≤ N_ar v) (by omega : 0 ≤ (k : Int))
    have hk2 := hk k c hx
    rw [hm 4 k (by omega) (by omega) hk2, hm 3 k (by omega) (by omega) hk2, hv _ (by omega) (by omega)]
    exact h1 k c hc hx
  · have hP2 := (eh r k i).mp hP
    obtain ⟨hp, hk2⟩ := hpk r k i hP2
    rw [hm 5 _ (by omega) (by omega) (by omega), ep, hv _ (by omega) (by omega)]
    exact h2 r k i r0 r1 hP2
def S_x : S_T := fun mem b v => S_b mem b v ∧ (mem b 7 = 1 → C6 v ∧ S_f mem b v) ∧ S_w mem b v ∧ S_p mem b v
theorem S_x_f {mem : ja_M} {b : Nat} {v : Nat → Int} (hS : N_S v) (h : S_x mem b v) : S_f mem b v := by
  obtain ⟨⟨-, -, hs, hz⟩, hf, -⟩ := h
  rcases hs with ⟨s7, -⟩ | ⟨s7, -⟩
  · obtain ⟨z1, z2⟩ := hz s7
    obtain ⟨har, hk, hpk⟩ := C6_in hS.c6
    refine ⟨fun k c hc hx => ?_, fun r k i r0 r1 hP => ?_⟩
    · have h0 := Int.mul_nonneg (by omega : 0 ≤ N_ar v) (by omega : 0 ≤ (k : Int))
      have hk2 := hk k c hx
      rw [z1 4 k (by omega) (by omega) hk2, z1 3 k (by omega) (by omega) hk2, z2 _ (by omega) (by omega), ja_L0, J_b_zero]
      exact ⟨⟨fun q => absurd q (by decide), fun q => absurd q (by decide)⟩, ⟨fun q => absurd q (by decide), fun q => absurd q (by decide)⟩⟩
    · obtain ⟨hp, hk2⟩ := hpk r k i hP
      rw [z1 5 _ (by omega) (by omega) (by omega), z2 _ (by omega) (by omega), Z_and0]
      exact ⟨fun _ => by decide, fun _ => rfl⟩
  · exact (hf s7).2
-- arrivals
theorem N_se_o {v : Nat → Int} {t : Int} (hR : N_R v) {j : Nat} (h24 : j ≠ 24) (hj : j < 2372 ∨ 2388 ≤ j) : N_se v t j = v j := by
  obtain ⟨-, h1, -⟩ := N_s0_R hR
  unfold N_se
  rw [ja_rs_n h24, ja_rs_n (by omega)]
  unfold N_s0
  split
  · rw [ja_rs_n h24, N_sh_n 15 (by omega)]
  · rfl
theorem N_aw_o {v : Nat → Int} {t x : Int} (h : N_O v t) (ht : t ≤ 900000) (hx : 0 ≤ x ∧ x ≤ 999) : (∀ j, j ≠ 10 → j ≠ 17 → j ≠ 24 → (j < 2372 ∨ 2388 ≤ j) → N_aw v x j = ja_rs v (30 + x).toNat 2 j) ∧ N_aw v x 17 = v 17 + if x < v 11 then 1 else 0 := by
  have hb := N_be_O h ht
  obtain ⟨a1, a2⟩ := N_a1_R hb.1 hx
  refine ⟨fun j h10 h17 h24 hj => ?_, ?_⟩
  · unfold N_aw
    rw [N_se_o a1 h24 hj]
    unfold N_a1
    rw [ja_rs_n h17]
    by_cases hq : j = (30 + x).toNat
    · rw [hq, ja_rs_s, ja_rs_s]
    · rw [ja_rs_n hq, ja_rs_n hq, N_be_n h10]
  · unfold N_aw
    rw [N_se_o a1 (by omega) (by omega)]
    unfold N_a1
    rw [ja_rs_s, N_be_n (by omega), N_be_n (by omega)]
theorem S_p_dp {mem : ja_M} {b : Nat} {v : Nat → Int} (h : S_p mem b v) : S_p (R_dp mem b) b (ja_rs v 18 (v 18 + 1)) := by
  obtain ⟨h1, h2, c0, c1, c2, c3, c4, c5, c6, c7, c8⟩ := h
  unfold S_p R_dp
  rw [ja_rs_n (show 22 ≠ 18 by omega), ja_rs_n (show 23 ≠ 18 by omega), ja_rs_n (show 12 ≠ 18 by omega), ja_rs_n (show 11 ≠ 18 by omega), ja_rs_n (show 19 ≠ 18 by omega), ja_rs_n (show 20 ≠ 18 by omega), ja_rs_n (show 21 ≠ 18 by omega), ja_rs_n (show 15 ≠ 18 by omega), ja_rs_n (show 16 ≠ 18 by omega), ja_rs_n (show 17 ≠ 18 by omega), ja_rs_n (show 13 ≠ 18 by omega), ja_rs_n (show 14 ≠ 18 by omega), ja_rs_s]
  rw [ja_up_row (show b + 9 ≠ b + 14 by omega), ja_up_row (show b + 12 ≠ b + 14 by omega)]
  refine ⟨h1, fun i i1 i2 => by rw [ja_rs_n (by omega)]; exact h2 i i1 i2, ?_⟩
  rw [ja_up_j (show 0 ≠ 6 by omega), ja_up_j (show 1 ≠ 6 by omega), ja_up_j (show 2 ≠ 6 by omega), ja_up_j (show 3 ≠ 6 by omega), ja_up_j (show 4 ≠ 6 by omega), ja_up_j (show 5 ≠ 6 by omega), ja_up_s, ja_up_j (show 7 ≠ 6 by omega), ja_up_j (show 8 ≠ 6 by omega)]
  exact ⟨c0, c1, c2, c3, c4, c5, by rw [c6], c7, c8⟩
theorem R_dp_o {mem : ja_M} {b q : Nat} (h : q ≠ b + 14) : R_dp mem b q = mem q := ja_up_row h
theorem S_x_dp {mem : ja_M} {b : Nat} {v : Nat → Int} (hS : N_S v) (hb : S_b (R_dp mem b) b (ja_rs v 18 (v 18 + 1))) (h : S_x mem b v) : S_x (R_dp mem b) b (ja_rs v 18 (v 18 + 1)) := by
  obtain ⟨-, hf, hw, hp⟩ := id h
  refine ⟨hb, fun q => ⟨?_, S_f_c6 hS.c6 (fun c j c1 c2 _ => by rw [R_dp_o (by omega)]) (ja_rs_n (by omega)) (ja_rs_n (by omega)) (fun j j1 j2 => ja_rs_n (by omega)) (S_x_f hS h)⟩, S_w_cg (fun q q1 q2 => R_dp_o (by omega)) (fun j hj => ja_rs_n (by omega)) hw, S_p_dp hp⟩
  unfold C6
  rw [ja_rs_n (by omega), ja_rs_n (by omega)]
  exact hS.c6
/-- a frame arrives: the tie behind it, and the answers -/
theorem S_x_afn {mem : ja_M} {b : Nat} {v : Nat → Int} {t x : Int} (hR : ja_RO mem b t) (hO : N_O v t) (ht : t ≤ 900000) (hx : 0 ≤ x ∧ x ≤ 999) (h : S_x mem b v) : S_x (R_af mem b x) b (N_av v x) ∧ R_an mem b x = N_an v x := by
  have hS := hO.1.S
  have hf := S_x_f hS h
  obtain ⟨hb, -, hw, hp⟩ := id h
  have hb' := S_b_af mem b v t x hR hO ht hx hb
  have hst := F_st_v hO.1 hb.1 hf hx
  have hF := hO.1.F (j := (30 + x).toNat) (by omega) (by omega)
  by_cases hk : N_kn v x
  · have hk2 : 0 < v (30 + x).toNat := hk.elim (fun q => by omega) id
    have h0 : ¬ F_st mem (b + 1) (b + 2) x = 0 := by
      rw [hst]
      omega
    have e : R_af mem b x = R_dp mem b := if_neg h0
    have e2 : N_av v x = ja_rs v 18 (v 18 + 1) := if_pos hk
    rw [e, e2] at hb' ⊢
    refine ⟨S_x_dp hS hb' h, ?_⟩
    unfold R_an N_an
    rw [if_neg h0, if_pos hk]
  · have hk2 : ¬ 0 < v (30 + x).toNat := fun q => hk (Or.inr q)
    have h0 : F_st mem (b + 1) (b + 2) x = 0 := by
      rw [hst]
      omega
    have hwO := N_aw_O hO ht hx
    have hws := N_aw_ss hO ht hx
    have hB : N_hB (N_aw v x) (x / N_ar v) := hws.hB.mpr (N_blk hS hx)
    obtain ⟨ao, a17⟩ := N_aw_o hO ht hx
    have hrow1 : ∀ q, q ≠ b → q ≠ b + 3 → q ≠ b + 4 → (q < b + 6 ∨ b + 9 ≤ q) → q ≠ b + 14 → R_kn mem b x q = mem q := fun q q0 q3 q4 q6 q14 => by
      unfold R_kn
      rw [F_ad_o ⟨by omega, by omega⟩, R_lt_o q14, R_ad_o ⟨q0, q6⟩]
    have hcl : ja_cells (R_kn mem b x) (b + 1) = N_ar v := by
      rw [ja_cells_c (hrow1 (b + 1) (by omega) (by omega) (by omega) (by omega) (by omega))]
      exact S_b_cells hb.1
    have e : R_af mem b x = R_rs (R_kn mem b x) b (x / N_ar v) := by
      unfold R_af
      rw [if_pos h0, hcl]
    have e2 : N_av v x = (N_rs 0 (x / N_ar v) 40 0 (N_aw v x)).2 := if_neg hk
    have hfr := N_rs_fr (a := 0) 40 0 (N_aw v x) hwO.1.S hB
    have hs1 : ∀ j, j < 9 → R_kn mem b x (b + 1) j = N_aw v x j := fun j hj => by
      rw [hrow1 (b + 1) (by omega) (by omega) (by omega) (by omega) (by omega), hws j hj]
      exact hb.1 j hj
    have hf1 : S_f (R_kn mem b x) b (N_aw v x) := by
      have hm : ∀ q, q = b + 1 ∨ (b + 3 ≤ q ∧ q ≤ b + 5) → R_lt (R_ad mem b x) b x q = mem q := fun q hq => by rw [R_lt_o (by omega), R_ad_o ⟨by omega, by omega⟩]
      have g0 : S_f (R_lt (R_ad mem b x) b x) b v := S_f_cg hS (fun q q1 q2 => hm q (by omega)) (fun _ _ => rfl) hf
      have g1 := F_ad_N hS (fun j hj => by rw [hm (b + 1) (by omega)]; exact hb.1 j hj) hx g0
      have hS1 : N_S (ja_rs v (30 + x).toNat 2) := (N_ss.rf.rs (by omega) : N_ss v (ja_rs v (30 + x).toNat 2)).S hS
      exact S_f_cg hS1 (fun _ _ _ => rfl) (fun j hj => ao j (by omega) (by omega) (by omega) (by omega)) g1
    have hSO : ja_SO (R_kn mem b x) (b + 1) := (R_kn_RO hR ht hx).1
    obtain ⟨r1, r2⟩ := R_rs_N hSO hwO.1 hs1 hB hf1
    have hss2 : N_ss v (N_rs 0 (x / N_ar v) 40 0 (N_aw v x)).2 := hws.tr hfr.ss
    have hrow2 : ∀ q, q ≠ b + 3 → R_rs (R_kn mem b x) b (x / N_ar v) q = R_kn mem b x q := fun q hq => R_rs_o hq
    rw [e, e2] at hb' ⊢
    refine ⟨⟨hb', fun _ => ⟨(hss2.S hS).c6, r1⟩, ?_, ?_⟩, ?_⟩
    · have g0 : S_w (R_so mem b) b (N_a1 (N_be v) x) := S_w_cg (fun q q1 q2 => R_so_o (by omega)) (fun j hj => by
        unfold N_a1
        rw [ja_rs_n (by omega), ja_rs_n (by omega), N_be_n (by omega)]) hw
      have g1 := T_add_N (t := (R_so mem b) b 6 - x * (R_so mem b) (b + 1) 0) g0
      have et : (R_so mem b) b 6 - x * (R_so mem b) (b + 1) 0 = N_be v 9 - x * N_be v 0 := by
        rw [R_so_j ⟨by omega, by omega⟩, R_so_o (by omega), hb.2.1, hb.1 0 (by omega), N_be_n (by omega), N_be_n (by omega)]
      refine S_w_cg (mem := R_ad mem b x) (v := N_aw v x) (fun q q1 q2 => ?_) (fun j hj => hfr.1 j (by omega)) ?_
      · rw [hrow2 q (by omega)]
        unfold R_kn
        rw [F_ad_o ⟨by omega, by omega⟩, R_lt_o (by omega)]
      · unfold R_ad N_aw
        rw [et] at g1 ⊢
        exact g1
    · obtain ⟨⟨p1, p2, p4, p6⟩, hkd, c0, c1, c2, c3, c4, c5, c6, c7, c8⟩ := id hp
      have w : ∀ j, j ≠ 17 → ((11 ≤ j ∧ j < 24) ∨ (2310 ≤ j ∧ j < 2342)) → (N_rs 0 (x / N_ar v) 40 0 (N_aw v x)).2 j = v j := fun j j17 hj => by
        rw [hfr.1 j (by omega), ao j (by omega) j17 (by omega) (by omega), ja_rs_n (by omega)]
      have w17 : (N_rs 0 (x / N_ar v) 40 0 (N_aw v x)).2 17 = v 17 + if x < v 11 then 1 else 0 := by rw [hfr.1 17 (by omega), a17]
      generalize (N_rs 0 (x / N_ar v) 40 0 (N_aw v x)).2 = u at *
      have hr9 : R_rs (R_kn mem b x) b (x / N_ar v) (b + 9) = mem (b + 9) := (hrow2 _ (by omega)).trans (hrow1 _ (by omega) (by omega) (by omega) (by omega) (by omega))
      have hr12 : R_rs (R_kn mem b x) b (x / N_ar v) (b + 12) = mem (b + 12) := (hrow2 _ (by omega)).trans (hrow1 _ (by omega) (by omega) (by omega) (by omega) (by omega))
      have hr14 : ∀ j, R_rs (R_kn mem b x) b (x / N_ar v) (b + 14) j = mem (b + 14) j + if j = 5 then (if x < v 11 then 1 else 0) else 0 := fun j => by
        rw [hrow2 _ (by omega)]
        unfold R_kn
        rw [F_ad_o ⟨by omega, by omega⟩]
        unfold R_lt
        rw [R_ad_o ⟨by omega, by omega⟩, R_ad_o ⟨by omega, by omega⟩, p6]
        by_cases hl : x < v 11
        · rw [if_pos hl, if_pos hl]
          by_cases hj : j = 5
          · subst hj
            rw [ja_up_s, if_pos rfl]
          · rw [ja_up_j hj, if_neg hj, R_ad_o ⟨by omega, by omega⟩]
            omega
        · rw [if_neg hl, if_neg hl, R_ad_o ⟨by omega, by omega⟩]
          split <;> omega
      unfold S_p
      rw [hr9, hr12, hr14 0, hr14 1, hr14 2, hr14 3, hr14 4, hr14 5, hr14 6, hr14 7, hr14 8, w17, w 22 (by omega) (by omega), w 23 (by omega) (by omega), w 12 (by omega) (by omega), w 11 (by omega) (by omega), w 19 (by omega) (by omega), w 20 (by omega) (by omega), w 21 (by omega) (by omega), w 15 (by omega) (by omega), w 16 (by omega) (by omega), w 18 (by omega) (by omega), w 13 (by omega) (by omega), w 14 (by omega) (by omega)]
      refine ⟨⟨p1, p2, p4, p6⟩, fun i i1 i2 => by rw [w _ (by omega) (by omega)]; exact hkd i i1 i2, ?_, ?_, ?_, ?_, ?_, ?_, ?_, ?_, ?_⟩
      · rw [if_neg (by decide)]; omega
      · rw [if_neg (by decide)]; omega
      · rw [if_neg (by decide)]; omega
      · rw [if_neg (by decide)]; omega
      · rw [if_neg (by decide)]; omega
      · rw [if_pos rfl, c5]
      · rw [if_neg (by decide)]; omega
      · rw [if_neg (by decide)]; omega
      · rw [if_neg (by decide)]; omega
    · unfold R_an N_an
      rw [if_pos h0, if_neg hk, hcl, r2]
/-- a packet arrives -/
theorem S_x_apn {mem : ja_M} {b : Nat} {v : Nat → Int} {t r k i : Int} (hR : ja_RO mem b t) (hO : N_O v t) (ht : t ≤ 900000) (hr : 0 ≤ r ∧ r ≤ 1) (hP : N_hP v r k i) (h : S_x mem b v) : S_x (R_ap mem b r k i) b (N_qv v r k i) ∧ R_pn mem b r k i = N_qn v r k i := by
  have hS := hO.1.S
  have hf := S_x_f hS h
  have hi := N_hP_6 hS hP
  have hpk := N_pk_in (r := r) hS hP.1 hi
  obtain ⟨hb, -, hw, hp⟩ := id h
  have hb' := S_b_ap mem b v t r k i hR hO ht hr hP hb
  have hiff := hf.2 r k i hr.1 hr.2 hP
  by_cases hk : v (N_pk v r k i).toNat = 1
  · have h0 : ¬ F_and (mem (b + 2 + 3) k.toNat) (F_pb r i) = 0 := fun q => hiff.mp q hk
    have e : R_ap mem b r k i = R_dp mem b := if_neg h0
    have e2 : N_qv v r k i = ja_rs v 18 (v 18 + 1) := if_pos hk
    rw [e, e2] at hb' ⊢
    refine ⟨S_x_dp hS hb' h, ?_⟩
    unfold R_pn N_qn
    rw [if_neg h0, if_pos hk]
  · have h0 : F_and (mem (b + 2 + 3) k.toNat) (F_pb r i) = 0 := hiff.mpr hk
    obtain ⟨hwO, -, hws⟩ := N_qw_O (r := r) hO ht hP.1 hi
    have hB : N_hB (N_qw v r k i) k := hws.hB.mpr hP.1
    have e : R_ap mem b r k i = R_rs (R_pk mem b r k i) b k := if_pos h0
    have e2 : N_qv v r k i = (N_rs 0 k 40 0 (N_qw v r k i)).2 := if_neg hk
    have hfr := N_rs_fr (a := 0) 40 0 (N_qw v r k i) hwO.1.S hB
    have hrow1 : ∀ q, q ≠ b → q ≠ b + 5 → R_pk mem b r k i q = mem q := fun q q0 q5 => by
      unfold R_pk
      rw [F_ap_o (by omega), R_so_o q0]
    have hwj : ∀ j, j ≠ 10 → j ≠ (N_pk v r k i).toNat → N_qw v r k i j = v j := fun j j10 jp => by
      unfold N_qw
      rw [ja_rs_n jp, N_be_n j10]
    have hs1 : ∀ j, j < 9 → R_pk mem b r k i (b + 1) j = N_qw v r k i j := fun j hj => by
      rw [hrow1 (b + 1) (by omega) (by omega), hws j hj]
      exact hb.1 j hj
    have hf1 : S_f (R_pk mem b r k i) b (N_qw v r k i) := by
      have g0 : S_f (R_so mem b) b v := S_f_cg hS (fun q q1 q2 => R_so_o (by omega)) (fun _ _ => rfl) hf
      have g1 := F_ap_N hS hr hP g0
      have hS1 : N_S (ja_rs v (N_pk v r k i).toNat 1) := (N_ss.rf.rs (by omega) : N_ss v (ja_rs v (N_pk v r k i).toNat 1)).S hS
      refine S_f_cg hS1 (fun _ _ _ => rfl) (fun j hj => ?_) g1
      unfold N_qw
      by_cases hq : j = (N_pk v r k i).toNat
      · rw [hq, ja_rs_s, ja_rs_s]
      · rw [ja_rs_n hq, ja_rs_n hq, N_be_n (by omega)]
    have hSO : ja_SO (R_pk mem b r k i) (b + 1) := (R_pk_RO hR).1
    obtain ⟨r1, r2⟩ := R_rs_N hSO hwO.1 hs1 hB hf1
    have hss2 : N_ss v (N_rs 0 k 40 0 (N_qw v r k i)).2 := hws.tr hfr.ss
    have hrow2 : ∀ q, q ≠ b → q ≠ b + 3 → q ≠ b + 5 → R_rs (R_pk mem b r k i) b k q = mem q := fun q q0 q3 q5 => (R_rs_o q3).trans (hrow1 q q0 q5)
    rw [e, e2] at hb' ⊢
    refine ⟨⟨hb', fun _ => ⟨(hss2.S hS).c6, r1⟩, ?_, ?_⟩, ?_⟩
    · exact S_w_cg (fun q q1 q2 => hrow2 q (by omega) (by omega) (by omega)) (fun j hj => by rw [hfr.1 j (by omega), hwj j (by omega) (by omega)]) hw
    · exact S_p_cg (fun j _ => by rw [hrow2 _ (by omega) (by omega) (by omega)]) (hrow2 _ (by omega) (by omega) (by omega)) (hrow2 _ (by omega) (by omega) (by omega)) (fun j hj => by rw [hfr.1 j (by omega), hwj j (by omega) (by omega)]) hp
    · unfold R_pn N_qn
      rw [if_pos h0, if_neg hk, r2]
-- its laws
theorem S_x_cg : Y_cg S_x := by
  intro mem mem' b v v' hm hv h
  obtain ⟨hb, hf, hw, hp⟩ := h
  have e0 := hm b (by omega) (by omega)
  refine ⟨S_b_cg mem mem' b v v' hm hv hb, fun q => ?_, S_w_cg (fun q q1 q2 => hm q (by omega) (by omega)) (fun j hj => hv j (by omega) (by omega) (by omega)) hw, S_p_cg (fun j _ => by rw [hm _ (by omega) (by omega)]) (hm _ (by omega) (by omega)) (hm _ (by omega) (by omega)) (fun j hj => hv j (by omega) (by omega) (by omega)) hp⟩
  rw [e0] at q
  obtain ⟨h6, hf2⟩ := hf q
  refine ⟨?_, S_f_c6 h6 (fun c j c1 c2 _ => by rw [hm _ (by omega) (by omega)]) (hv 3 (by omega) (by omega) (by omega)) (hv 4 (by omega) (by omega) (by omega)) (fun j j1 j2 => hv j (by omega) (by omega) (by omega)) hf2⟩
  unfold C6
  rw [hv 3 (by omega) (by omega) (by omega), hv 4 (by omega) (by omega) (by omega)]
  exact h6
theorem S_x_cy : S_cy S_x := by
  intro mem mem' b o v t hR he h
  obtain ⟨hb, hf, hw, hp⟩ := h
  have hb' := S_b_cy mem mem' b o v t hR he hb
  obtain ⟨-, e3, ⟨e62, e63⟩, e7, ⟨e91, e92, e94, e96⟩, -, -, e12, e14, -, -, -, e07, -⟩ := he
  obtain ⟨w1, w2, w3, w4, w5, w6⟩ := hw
  obtain ⟨p1, p2, p3⟩ := hp
  refine ⟨hb', fun q => ?_, ?_, ?_⟩
  · rw [e07] at q
    exact ⟨(hf q).1, S_f_c6 (hf q).1 e3 rfl rfl (fun _ _ _ => rfl) (hf q).2⟩
  · unfold S_w
    rw [e62, e63]
    exact ⟨w1, w2, w3, w4, fun i hi => (e7 7 _ (by omega) (by omega) (by omega)).trans (w5 i hi), fun j hj => (e7 8 j (by omega) (by omega) (by omega)).trans (w6 j hj)⟩
  · unfold S_p
    rw [e91, e92, e94, e96, e14 0 (by omega), e14 1 (by omega), e14 2 (by omega), e14 3 (by omega), e14 4 (by omega), e14 5 (by omega), e14 6 (by omega), e14 7 (by omega), e14 8 (by omega)]
    exact ⟨p1, fun i i1 i2 => (e12 _ (by omega)).trans (p2 i i1 i2), p3⟩
theorem S_x_up {mem : ja_M} {b : Nat} {v : Nat → Int} {j : Nat} {z : Int} (hj : j < 9) (hf' : ja_up mem (b + 1) j z b 7 = 1 → C6 (ja_rs v j z) ∧ S_f (ja_up mem (b + 1) j z) b (ja_rs v j z)) (h : S_x mem b v) : S_x (ja_up mem (b + 1) j z) b (ja_rs v j z) := by
  obtain ⟨hb, hf, hw, hp⟩ := h
  exact ⟨S_b_up hj hb, hf', S_w_cg (fun q q1 q2 => ja_up_row (by omega)) (fun i hi => ja_rs_n (by omega)) hw, S_p_cg (fun i _ => ja_up_a (by omega)) (ja_up_row (by omega)) (ja_up_row (by omega)) (fun i hi => ja_rs_n (by omega)) hp⟩
theorem N_pl_f {a : Nat → Int} {t : Int} (h : N_O a t) {j : Nat} (hj : j < 9 ∨ j = 24 ∨ (30 ≤ j ∧ j < 2054) ∨ 2372 ≤ j) : N_pl a j = a j := by
  have e2 : N_t2 a j = a j := by
    unfold N_t2
    split
    · rename_i hc
      rw [ja_rs_n (by omega)]
      exact (N_tk_O h hc.2).2.2.2 j (by omega)
    · rfl
  have hC := (N_t2_O h).1.1.C
  unfold N_pl
  split
  · unfold N_t3
    split
    · rw [ja_rs_n (by omega), ja_rs_n (by omega), ja_rs_n (by omega)]
      exact e2
    · exact e2
  · rfl
theorem S_x_pl : Y_pl S_x := by
  intro mem b v t hR hO ht h
  have hS := hO.1.S
  have hf := S_x_f hS h
  obtain ⟨hb, -, hw, hp⟩ := id h
  refine ⟨S_b_pl mem b v t hR hO ht hb, fun _ => ⟨?_, S_f_c6 hS.c6 (fun c j c1 c2 _ => by rw [R_pl_o (by omega)]) (N_pl_f hO (by omega)) (N_pl_f hO (by omega)) (fun j j1 j2 => N_pl_f hO (by omega)) hf⟩, S_w_cg (fun q q1 q2 => R_pl_o (by omega)) (fun j hj => N_pl_f hO (by omega)) hw, S_p_pl hO hb hf hw hp⟩
  unfold C6
  rw [N_pl_f hO (by omega), N_pl_f hO (by omega)]
  exact hS.c6
theorem S_x_tm : Y_tm S_x := by
  intro mem b v h
  obtain ⟨hb, hf, hw, hp⟩ := h
  refine ⟨S_b_tm mem b v hb, fun q => ?_, S_w_cg (fun q q1 q2 => ja_up_row (by omega)) (fun i hi => ja_rs_n (by omega)) hw, S_p_cg (fun i _ => ja_up_a (by omega)) (ja_up_row (by omega)) (ja_up_row (by omega)) (fun i hi => ja_rs_n (by omega)) hp⟩
  rw [ja_up_j (by omega)] at q
  obtain ⟨h6, hf2⟩ := hf q
  refine ⟨?_, S_f_c6 h6 (fun c j c1 c2 _ => ja_up_a (by omega)) (ja_rs_n (by omega)) (ja_rs_n (by omega)) (fun j j1 j2 => ja_rs_n (by omega)) hf2⟩
  unfold C6
  rw [ja_rs_n (by omega), ja_rs_n (by omega)]
  exact h6
theorem S_x_in : S_in S_x := by
  intro mem b h
  have z : ∀ c j, c < 20 → c ≠ 1 → mem (b + c) j = 0 := fun c j h0 h1 => h.2 _ _ (by omega) (by omega) (by omega)
  have z0 : ∀ j, mem b j = 0 := fun j => h.2 _ _ (by omega) (by omega) (by omega)
  have v0 : ∀ j, 9 ≤ j → j ≠ 10 → N_v0 j = 0 := fun j a c => N_v0_z a c
  refine ⟨S_b_in mem b h, fun q => ?_, ?_, ?_⟩
  · rw [z0] at q
    exact absurd q (by decide)
  · unfold S_w
    rw [z 6 2 (by omega) (by omega), z 6 3 (by omega) (by omega), v0 24 (by omega) (by omega)]
    exact ⟨rfl, by omega, by omega, fun _ => rfl, fun i hi => by omega, fun j hj => by omega⟩
  · unfold S_p
    rw [z 9 1 (by omega) (by omega), z 9 2 (by omega) (by omega), z 9 4 (by omega) (by omega), z 9 6 (by omega) (by omega), v0 22 (by omega) (by omega), v0 23 (by omega) (by omega), v0 12 (by omega) (by omega), v0 11 (by omega) (by omega), v0 19 (by omega) (by omega), v0 20 (by omega) (by omega), v0 21 (by omega) (by omega), v0 15 (by omega) (by omega), v0 16 (by omega) (by omega), v0 17 (by omega) (by omega), v0 18 (by omega) (by omega), v0 13 (by omega) (by omega), v0 14 (by omega) (by omega), z 14 0 (by omega) (by omega), z 14 1 (by omega) (by omega), z 14 2 (by omega) (by omega), z 14 3 (by omega) (by omega), z 14 4 (by omega) (by omega), z 14 5 (by omega) (by omega), z 14 6 (by omega) (by omega), z 14 7 (by omega) (by omega), z 14 8 (by omega) (by omega)]
    exact ⟨⟨rfl, rfl, rfl, rfl⟩, fun i _ hi => by omega, rfl, rfl, rfl, rfl, rfl, rfl, rfl, rfl, rfl⟩
theorem S_x_ok : Y_ok S_x := ⟨fun _ _ _ h => h.1, S_x_cg, S_x_cy, fun mem b v j z hj h7 _ h => S_x_up (by omega) (fun q => by rw [ja_up_a (by omega), h7] at q; exact absurd q (by decide)) h, fun mem b v j z h6 h9 h => S_x_up h9 (fun q => by
  rw [ja_up_a (by omega)] at q
  obtain ⟨c6, hf2⟩ := h.2.1 q
  refine ⟨?_, S_f_c6 c6 (fun c i c1 c2 _ => ja_up_a (by omega)) (ja_rs_n (by omega)) (ja_rs_n (by omega)) (fun i i1 i2 => ja_rs_n (by omega)) hf2⟩
  unfold C6
  rw [ja_rs_n (by omega), ja_rs_n (by omega)]
  exact c6) h, fun mem b v t x hR hO ht hx h => (S_x_afn hR hO ht hx h).1, fun mem b v t r k i hR hO ht hr hP h => (S_x_apn hR hO ht hr hP h).1, S_x_pl, S_x_tm, S_x_in⟩
abbrev S1 : S_T := Y_S S_x
theorem S1_ok : S_ok S1 := Y_all S_x_ok
