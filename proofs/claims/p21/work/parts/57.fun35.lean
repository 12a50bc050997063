-- THE TIE OF SETTINGS, TIME, START
theorem F_st_z {mem : ja_M} {b : Nat} {x : Int} (h3 : mem (b + 3) (x / ja_cells mem (b + 1)).toNat = 0) (h4 : mem (b + 4) (x / ja_cells mem (b + 1)).toNat = 0) : F_st mem (b + 1) (b + 2) x = 0 := by
  unfold F_st
  rw [show b + 2 + 2 = b + 4 from rfl, show b + 2 + 1 = b + 3 from rfl, h3, h4, if_pos (Z_shr _), if_pos (Z_shr _)]
theorem N_av_10 {v : Nat → Int} {t x : Int} (h : N_O v t) (ht : t ≤ 900000) (hx : 0 ≤ x ∧ x ≤ 999) : N_av v x 10 = if N_kn v x then v 10 else N_be v 10 := by
  have hw := N_aw_O h ht hx
  have hs := N_aw_ss h ht hx
  have hB : N_hB (N_aw v x) (x / N_ar v) := hs.hB.mpr (N_blk h.1.S hx)
  unfold N_av
  split
  · exact ja_rs_n (by omega)
  · have hb := N_be_O h ht
    obtain ⟨a1, a2⟩ := N_a1_R hb.1 hx
    have hf := N_fxs (x := x) hb.1.S ⟨by omega, by omega⟩
    have hc := hb.1.C
    obtain ⟨s1, s2⟩ := N_se_R (t := N_be v 9 - x * N_be v 0) a1 ⟨by omega, by omega⟩
    exact ((N_rs_fr (a := 0) 40 0 (N_aw v x) hw.1.S hB).k 10 (by omega)).trans ((a2.tr s2) 10 (by omega))
theorem N_qv_10 {v : Nat → Int} {t r k i : Int} (h : N_O v t) (ht : t ≤ 900000) (hk : N_hB v k) (hi : 0 ≤ i ∧ i ≤ 6) : N_qv v r k i 10 = if v (N_pk v r k i).toNat = 1 then v 10 else N_be v 10 := by
  obtain ⟨hw, hwk, hs⟩ := N_qw_O (r := r) h ht hk hi
  have hB : N_hB (N_qw v r k i) k := hs.hB.mpr hk
  have hp := N_pk_in (r := r) h.1.S hk hi
  unfold N_qv
  split
  · exact ja_rs_n (by omega)
  · refine ((N_rs_fr (a := 0) 40 0 (N_qw v r k i) hw.1.S hB).k 10 (by omega)).trans ?_
    unfold N_qw
    exact ja_rs_n (by omega)
theorem R_so_78 {mem : ja_M} {b : Nat} : R_so mem b b 7 = (if mem b 7 = 0 then 1 else mem b 7) ∧ R_so mem b b 8 = if mem b 7 = 0 then mem b 6 + mem (b + 1) 5 else mem b 8 := by
  unfold R_so
  split
  · exact ⟨by rw [ja_up_j (by omega), ja_up_s], by rw [ja_up_s]⟩
  · exact ⟨rfl, rfl⟩
theorem R_af_b {mem : ja_M} {b : Nat} {x : Int} : R_af mem b x b = if F_st mem (b + 1) (b + 2) x = 0 then R_so mem b b else mem b := by
  unfold R_af
  split
  · rw [R_rs_o (by omega), R_kn, F_ad_o ⟨by omega, by omega⟩, R_lt_o (by omega), R_ad, T_add_o (by omega)]
  · unfold R_dp
    exact ja_up_row (by omega)
theorem R_ap_b {mem : ja_M} {b : Nat} {r k i : Int} : R_ap mem b r k i b = if F_and (mem (b + 2 + 3) k.toNat) (F_pb r i) = 0 then R_so mem b b else mem b := by
  unfold R_ap
  split
  · rw [R_rs_o (by omega), R_pk, F_ap_o (by omega)]
  · unfold R_dp
    exact ja_up_row (by omega)
theorem S_b_cells {mem : ja_M} {b : Nat} {v : Nat → Int} (h : ∀ j, j < 9 → mem (b + 1) j = v j) : ja_cells mem (b + 1) = N_ar v := by
  unfold ja_cells N_ar
  rw [h 3 (by omega), h 4 (by omega)]
/-- a start, or none -/
theorem S_b_so {mem M : ja_M} {b : Nat} {v w : Nat → Int} {P Q : Prop} [Decidable P] [Decidable Q] (hC : 0 ≤ v 9 + v 5) (h : S_b mem b v) (e1 : ∀ j, j < 9 → M (b + 1) j = w j) (e6 : M b 6 = w 9) (eM : M b = if P then R_so mem b b else mem b) (ew : w 10 = if Q then v 10 else N_be v 10) (hP : mem b 7 = 0 → P) (hQ : v 10 < 0 → ¬ Q) : S_b M b w := by
  obtain ⟨h1, h6, hs, hz⟩ := h
  obtain ⟨s7, s8⟩ := @R_so_78 mem b
  rcases hs with ⟨k7, k10⟩ | ⟨k7, k10, k8⟩
  · rw [if_pos (hP k7)] at eM
    rw [if_pos k7] at s7 s8
    rw [if_neg (hQ k10), N_be, if_pos k10, ja_rs_s] at ew
    refine ⟨e1, e6, Or.inr ⟨by rw [eM]; exact s7, by omega, by rw [eM, s8, ew, h6, h1 5 (by omega)]⟩, fun q => ?_⟩
    rw [eM, s7] at q
    exact absurd q (by decide)
  · rw [if_neg (by omega)] at s7 s8
    have m7 : M b 7 = 1 := by
      rw [eM]
      split
      · rw [s7]
        exact k7
      · exact k7
    have m8 : M b 8 = mem b 8 := by
      rw [eM]
      split
      · exact s8
      · rfl
    have w10 : w 10 = v 10 := by
      rw [ew]
      split
      · rfl
      · rw [N_be, if_neg (by omega)]
    refine ⟨e1, e6, Or.inr ⟨m7, by omega, by rw [m8, w10]; exact k8⟩, fun q => ?_⟩
    rw [m7] at q
    exact absurd q (by decide)
theorem S_b_af : S_af S_b := by
  intro mem b v t x hR hO ht hx h
  have hk := (N_av_O hO ht hx).2
  have hC := hO.1.C
  have hS := hO.1.S
  obtain ⟨h1, h6, hs, hz⟩ := id h
  have har := N_ar_in hS
  have hbl := N_blk hS hx
  have hbk := N_bk hS hbl
  refine S_b_so (by omega) h (fun j hj => ?_) ?_ R_af_b (N_av_10 hO ht hx) (fun q => ?_) (fun q => ?_)
  · rw [R_af_o (by omega), hk j (by omega) (by omega)]
    exact h1 j hj
  · rw [R_af_6, hk 9 (by omega) (by omega)]
    exact h6
  · obtain ⟨z1, -⟩ := hz q
    have hc := S_b_cells h1
    exact F_st_z (by rw [hc]; exact z1 3 _ (by omega) (by omega) (by omega)) (by rw [hc]; exact z1 4 _ (by omega) (by omega) (by omega))
  · obtain ⟨-, z2⟩ := hz (by omega)
    intro r
    rcases r with r | r
    · omega
    · rw [z2 _ (by omega) (by omega)] at r
      omega
theorem S_b_ap : Y_ap S_b := by
  intro mem b v t r k i hR hO ht hr hP h
  have hi := N_hP_6 hO.1.S hP
  have hk := (N_qv_O (r := r) hO ht hP.1 hi).2
  have hC := hO.1.C
  have hS := hO.1.S
  obtain ⟨h1, h6, hs, hz⟩ := id h
  have hbk := N_bk hS hP.1
  have hpk := N_pk_in (r := r) hS hP.1 hi
  refine S_b_so (by omega) h (fun j hj => ?_) ?_ R_ap_b (N_qv_10 hO ht hP.1 hi) (fun q => ?_) (fun q => ?_)
  · rw [R_ap_o (by omega), hk j (by omega) (by omega)]
    exact h1 j hj
  · rw [R_ap_6, hk 9 (by omega) (by omega)]
    exact h6
  · obtain ⟨z1, -⟩ := hz q
    rw [show b + 2 + 3 = b + 5 from rfl, z1 5 _ (by omega) (by omega) (by omega)]
    exact Z_and0 _
  · obtain ⟨-, z2⟩ := hz (by omega)
    rw [z2 _ (by omega) (by omega)]
    decide
theorem S_b_pl : Y_pl S_b := by
  intro mem b v t hR hO ht h
  obtain ⟨h1, h6, hs, hz⟩ := h
  have e : ∀ c, c < 9 → R_pl mem b (b + c) = mem (b + c) := fun c hc => R_pl_o (by omega)
  have e0 := e 0 (by omega)
  rw [Nat.add_zero] at e0
  refine ⟨fun j hj => ?_, ?_, ?_, fun q => ?_⟩
  · rw [e 1 (by omega), N_pl_n hO (by omega)]
    exact h1 j hj
  · rw [e0, N_pl_n hO (by omega)]
    exact h6
  · rw [e0, N_pl_n hO (by omega)]
    exact hs
  · rw [e0] at q
    obtain ⟨z1, z2⟩ := hz q
    refine ⟨fun c j c1 c2 hj => by rw [e c (by omega)]; exact z1 c j c1 c2 hj, fun j h30 h2054 => ?_⟩
    unfold N_pl
    rw [if_neg (fun r => by unfold N_on at r; omega)]
    exact z2 j h30 h2054
theorem S_b_cg : Y_cg S_b := by
  intro mem mem' b v v' hm hv h
  obtain ⟨h1, h6, hs, hz⟩ := h
  have e0 := hm b (by omega) (by omega)
  refine ⟨fun j hj => by rw [hm _ (by omega) (by omega), hv j (by omega) (by omega) (by omega)]; exact h1 j hj, by rw [e0, hv 9 (by omega) (by omega) (by omega)]; exact h6, by rw [e0, hv 10 (by omega) (by omega) (by omega)]; exact hs, fun q => ?_⟩
  rw [e0] at q
  obtain ⟨z1, z2⟩ := hz q
  exact ⟨fun c j c1 c2 hj => by rw [hm _ (by omega) (by omega)]; exact z1 c j c1 c2 hj, fun j j1 j2 => by rw [hv j (by omega) (by omega) (by omega)]; exact z2 j j1 j2⟩
theorem S_b_cy : S_cy S_b := by
  intro mem mem' b o v t hR he h
  obtain ⟨e1, e2, -, -, -, -, -, -, -, -, -, e6, e7, e8⟩ := he
  obtain ⟨h1, h6, hs, hz⟩ := h
  refine ⟨fun j hj => (e1 j hj).trans (h1 j hj), e6.trans h6, by rw [e7, e8]; exact hs, fun q => ?_⟩
  rw [e7] at q
  obtain ⟨z1, z2⟩ := hz q
  exact ⟨fun c j c1 c2 hj => (e2 c j c1 c2 hj).trans (z1 c j c1 c2 hj), z2⟩
theorem S_b_up {mem : ja_M} {b : Nat} {v : Nat → Int} {j : Nat} {z : Int} (hj : j < 9) (h : S_b mem b v) : S_b (ja_up mem (b + 1) j z) b (ja_rs v j z) := by
  obtain ⟨h1, h6, hs, hz⟩ := h
  refine ⟨fun i hi => ?_, ?_, ?_, fun q => ?_⟩
  · by_cases hij : i = j
    · subst hij
      rw [ja_up_s, ja_rs_s]
    · rw [ja_up_j hij, ja_rs_n hij]
      exact h1 i hi
  · rw [ja_up_a (by omega), ja_rs_n (by omega)]
    exact h6
  · rw [ja_up_a (by omega), ja_up_a (by omega), ja_rs_n (by omega)]
    exact hs
  · rw [ja_up_a (by omega)] at q
    obtain ⟨z1, z2⟩ := hz q
    exact ⟨fun c i c1 c2 hi => by rw [ja_up_a (by omega)]; exact z1 c i c1 c2 hi, fun i i1 i2 => by rw [ja_rs_n (by omega)]; exact z2 i i1 i2⟩
theorem S_b_tm : Y_tm S_b := by
  intro mem b v h
  obtain ⟨h1, h6, hs, hz⟩ := h
  refine ⟨fun i hi => ?_, ?_, ?_, fun q => ?_⟩
  · rw [ja_up_a (by omega), ja_rs_n (by omega)]
    exact h1 i hi
  · rw [ja_up_s, ja_rs_s, h6]
  · rw [ja_up_j (by omega), ja_up_j (by omega), ja_rs_n (by omega)]
    exact hs
  · rw [ja_up_j (by omega)] at q
    obtain ⟨z1, z2⟩ := hz q
    exact ⟨fun c i c1 c2 hi => by rw [ja_up_a (by omega)]; exact z1 c i c1 c2 hi, fun i i1 i2 => by rw [ja_rs_n (by omega)]; exact z2 i i1 i2⟩
theorem S_b_in : S_in S_b := by
  intro mem b h
  obtain ⟨⟨s0, s1, s2, s3, s4, s5, s6, s7, s8⟩, hz⟩ := id h
  refine ⟨fun j hj => ?_, ?_, Or.inl ⟨hz b 7 (by omega) (by omega) (by omega), by decide⟩, fun _ => ⟨fun c j c1 c2 hj => hz _ _ (by omega) (by omega) (by omega), fun j j1 j2 => N_v0_z (by omega) (by omega)⟩⟩
  · rcases (show j = 0 ∨ j = 1 ∨ j = 2 ∨ j = 3 ∨ j = 4 ∨ j = 5 ∨ j = 6 ∨ j = 7 ∨ j = 8 by omega) with rfl | rfl | rfl | rfl | rfl | rfl | rfl | rfl | rfl
    · exact s0
    · exact s1
    · exact s2
    · exact s3
    · exact s4
    · exact s5
    · exact s6
    · exact s7
    · exact s8
  · rw [hz b 6 (by omega) (by omega) (by omega), N_v0_z (by omega) (by omega)]
theorem S_b_ok : Y_ok S_b := ⟨fun _ _ _ h => h, S_b_cg, S_b_cy, fun mem b v j z hj _ _ h => S_b_up (by omega) h, fun mem b v j z _ h9 h => S_b_up h9 h, S_b_af, S_b_ap, S_b_pl, S_b_tm, S_b_in⟩
abbrev S2 : S_T := Y_S S_b
theorem S2_ok : S_ok S2 := Y_all S_b_ok
