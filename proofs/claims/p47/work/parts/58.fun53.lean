-- ARRIVALS
theorem N_av_known {v : Nat → Int} {x : Int} (hk : N_kn v x) : N_av v x = ja_rs v 18 (v 18 + 1) ∧ N_an v x = 0 := ⟨if_pos hk, if_pos hk⟩
theorem N_U_le {v : Nat → Int} {k : Int} (hS : N_S v) : N_U v k ≤ 36 := by
  have h1 := @N_un_le v (N_ar v * k) (N_ar v).toNat
  have h2 := N_ar_in hS
  show N_un v (N_ar v * k) (N_ar v).toNat ≤ 36
  omega
theorem N_av_new {v : Nat → Int} {t x : Int} (h : N_O v t) (ht : t ≤ 900000) (hx : 0 ≤ x ∧ x ≤ 999) (hk : ¬ N_kn v x) : (0 < N_an v x ∧ N_an v x ≤ 37) ∧ N_av v x 18 = v 18 ∧ N_av v x (30 + x).toNat = 2 ∧ N_av v x 17 = v 17 + (if x < v 11 then 1 else 0) ∧ 0 ≤ N_av v x 10 := by
  have hw := N_aw_O h ht hx
  have hs := N_aw_ss h ht hx
  have hB : N_hB (N_aw v x) (x / N_ar v) := hs.hB.mpr (N_blk h.1.S hx)
  have hf := N_rs_fr (a := 0) 40 0 (N_aw v x) hw.1.S hB
  have hn := N_rs_in (a := 0) 40 0 (N_aw v x) hw.1.S hB
  have hU := N_U_le (k := x / N_ar v) hw.1.S
  obtain ⟨o1, o2⟩ := N_aw_o h ht hx
  have hC := h.1.C
  have hSS := h.1.S
  have e10 := N_av_10 h ht hx
  rw [if_neg hk] at e10
  have en : N_an v x = 1 + (N_rs 0 (x / N_ar v) 40 0 (N_aw v x)).1 := if_neg hk
  have ev : N_av v x = (N_rs 0 (x / N_ar v) 40 0 (N_aw v x)).2 := if_neg hk
  have w30 : N_aw v x (30 + x).toNat = 2 := by
    rw [o1 _ (by omega) (by omega) (by omega) (by omega), ja_rs_s]
  have w18 : N_aw v x 18 = v 18 := by
    rw [o1 18 (by omega) (by omega) (by omega) (by omega), ja_rs_n (by omega)]
  refine ⟨by rw [en]; omega, ?_, ?_, ?_, ?_⟩
  · rw [ev, hf.1 18 (by omega), w18]
  · rw [ev, hf.2.1 _ (by rw [w30]; decide), w30]
  · rw [ev, hf.1 17 (by omega), o2]
  · rw [e10]
    unfold N_be
    split
    · rw [ja_rs_s]
      omega
    · omega
theorem N_qv_known {v : Nat → Int} {r k i : Int} (hk : v (N_pk v r k i).toNat = 1) : N_qv v r k i = ja_rs v 18 (v 18 + 1) ∧ N_qn v r k i = 0 := ⟨if_pos hk, if_pos hk⟩
theorem N_qv_new {v : Nat → Int} {t r k i : Int} (h : N_O v t) (ht : t ≤ 900000) (hr : 0 ≤ r ∧ r ≤ 1) (hP : N_hP v r k i) (hk : ¬ v (N_pk v r k i).toNat = 1) : (0 ≤ N_qn v r k i ∧ N_qn v r k i ≤ 36) ∧ N_qv v r k i 18 = v 18 ∧ (N_mi v r k i (N_cs v r).toNat = 1 → 0 < N_qn v r k i) ∧ ¬ N_mi (N_qv v r k i) r k i (N_cs (N_qv v r k i) r).toNat = 1 := by
  have hi6 := N_hP_6 h.1.S hP
  obtain ⟨hw, -, hs⟩ := N_qw_O (r := r) h ht hP.1 hi6
  have hB : N_hB (N_qw v r k i) k := hs.hB.mpr hP.1
  have hf := N_rs_fr (a := 0) 40 0 (N_qw v r k i) hw.1.S hB
  have hn := N_rs_in (a := 0) 40 0 (N_qw v r k i) hw.1.S hB
  have hU := N_U_le (k := k) hw.1.S
  have hpk := N_pk_in (r := r) h.1.S hP.1 hi6
  have hcs := N_cs_in (r := r) h.1.S
  have en : N_qn v r k i = (N_rs 0 k 40 0 (N_qw v r k i)).1 := if_neg hk
  have ev : N_qv v r k i = (N_rs 0 k 40 0 (N_qw v r k i)).2 := if_neg hk
  have w18 : N_qw v r k i 18 = v 18 := by
    unfold N_qw
    rw [ja_rs_n (by omega), N_be_n (by omega)]
  have wf : ∀ j, 30 ≤ j → j < 1030 → N_qw v r k i j = v j := fun j j0 j1 => by
    unfold N_qw
    rw [ja_rs_n (by omega), N_be_n (by omega)]
  have wp : N_qw v r k i (N_pk (N_qw v r k i) r k i).toNat = 1 := by
    rw [hs.pk]
    unfold N_qw
    rw [ja_rs_s]
  have hmi := N_mi_c (r := r) hs h.1.S hP.1 hi6 wf (N_cs v r).toNat (by omega)
  have hi : 0 ≤ i ∧ i < (if r = 0 then N_qw v r k i 3 else N_qw v r k i 4) := by
    rw [hs 3 (by omega), hs 4 (by omega)]
    have := hP.2
    omega
  refine ⟨by rw [en]; omega, by rw [ev, hf.1 18 (by omega), w18], fun q => ?_, ?_⟩
  · rw [en]
    exact N_rs_pos hw.1.S hB hr hi wp (by rw [hs.cs, hmi]; exact q)
  · rw [ev]
    have hx := N_rs_fix (k := k) 40 0 (N_qw v r k i) hw.1.S hB (by omega) r i hr.1 hr.2 hi.1 hi.2 (by rw [hf.2.1 _ (by rw [wp]; decide), wp])
    rw [hf.ss.cs]
    exact hx
section
variable {lay : ja_Y} {mem M : ja_M} {n y : Nat} {sl : Nat → Option Nat} {t : Int} {v v' : Nat → Int}
/-- fewer than all frames have been taken -/
theorem I7_11 (h : I7 lay mem n y sl t v) (ht : t ≤ 1900) : mem (y + 1 + 9) 6 ≤ 962 := by
  rw [h.P.1.2.2.2]
  obtain ⟨-, hq, -⟩ := h.N
  have hg := h.G.2.2.2.2.1
  have hC := h.N.1.C
  omega
theorem I7_st {x : Int} (h : I7 lay mem n y sl t v) (hx : 0 ≤ x ∧ x ≤ 999) : F_st mem (y + 1 + 1) (y + 1 + 2) x = v (30 + x).toNat := F_st_v h.N.1 h.set h.F hx
theorem I7_arr {x : Int} (h : I7 lay mem n y sl t v) (ht : t ≤ 898000) (hx : 0 ≤ x ∧ x ≤ 999) : (0 < F_st mem (y + 1 + 1) (y + 1 + 2) x ∧ R_an mem (y + 1) x = 0 ∧ R_af mem (y + 1) x (y + 1 + 14) 6 = mem (y + 1 + 14) 6 + 1 ∧ F_st (R_af mem (y + 1) x) (y + 1 + 1) (y + 1 + 2) x = F_st mem (y + 1 + 1) (y + 1 + 2) x ∧ R_af mem (y + 1) x (y + 1 + 14) 5 = mem (y + 1 + 14) 5) ∨ (F_st mem (y + 1 + 1) (y + 1 + 2) x = 0 ∧ (0 < R_an mem (y + 1) x ∧ R_an mem (y + 1) x ≤ 37) ∧ R_af mem (y + 1) x (y + 1 + 14) 6 = mem (y + 1 + 14) 6 ∧ F_st (R_af mem (y + 1) x) (y + 1 + 1) (y + 1 + 2) x = 2 ∧ R_af mem (y + 1) x (y + 1 + 14) 5 = mem (y + 1 + 14) 5 + (if x < mem (y + 1 + 9) 6 then 1 else 0) ∧ 0 ≤ (if R_af mem (y + 1) x (y + 1) 7 = 0 then -1004 else R_af mem (y + 1) x (y + 1) 8)) := by
  have h' := I7_af h ht hx
  have e := (S_x_afn h.R h.N (by omega) hx h.T.1).2
  rw [I7_st h hx, I7_st h' hx, e, h.P.2.2.2.2.2.2.2.2.1, h'.P.2.2.2.2.2.2.2.2.1, h.P.2.2.2.2.2.2.2.1, h'.P.2.2.2.2.2.2.2.1, h.P.1.2.2.2]
  have hr := h.N.1.F (j := (30 + x).toNat) (by omega) (by omega)
  by_cases q : N_kn v x
  · left
    obtain ⟨e1, e2⟩ := N_av_known q
    rw [e1, e2, ja_rs_s, ja_rs_n (by omega), ja_rs_n (by omega)]
    exact ⟨by omega, rfl, rfl, rfl, rfl⟩
  · right
    obtain ⟨e1, e2, e3, e4, e5⟩ := N_av_new h.N (by omega) hx q
    rw [e2, e3, e4]
    refine ⟨by omega, e1, rfl, rfl, rfl, ?_⟩
    rcases h'.T.1.1.2.2.1 with ⟨a, b⟩ | ⟨a, b, c⟩
    · omega
    · rw [if_neg (by omega), c]
      exact e5
/-- what missing answers -/
def e_mis (mem : ja_M) (y : Nat) (r k i : Int) : Int := J_bc (F_lb mem (y + 1 + 1) r i &&& (F_kn mem (y + 1 + 1) (y + 1 + 2) k ^^^ (-1)))
theorem I7_pkt {r k i : Int} (h : I7 lay mem n y sl t v) (ht : t ≤ 898000) (hr : 0 ≤ r ∧ r ≤ 1) (hP : N_hP v r k i) : (R_pn mem (y + 1) r k i = 0 ∧ R_ap mem (y + 1) r k i (y + 1 + 14) 6 = mem (y + 1 + 14) 6 + 1) ∨ ((0 ≤ R_pn mem (y + 1) r k i ∧ R_pn mem (y + 1) r k i ≤ 36) ∧ R_ap mem (y + 1) r k i (y + 1 + 14) 6 = mem (y + 1 + 14) 6 ∧ (e_mis mem y r k i = 1 → 0 < R_pn mem (y + 1) r k i) ∧ ¬ e_mis (R_ap mem (y + 1) r k i) y r k i = 1) := by
  have h' := I7_ap h ht hr hP
  have e := (S_x_apn h.R h.N (by omega) hr hP h.T.1).2
  have hP' : N_hP (N_qv v r k i) r k i := by
    have hk := N_qv_kg h.N (by omega : t ≤ 900000) hP.1 (N_hP_6 h.N.1.S hP) (r := r)
    have hs : N_ss v (N_qv v r k i) := fun j hj => hk j (by omega)
    exact hs.hP.mpr hP
  unfold e_mis
  rw [e, h.P.2.2.2.2.2.2.2.2.1, h'.P.2.2.2.2.2.2.2.2.1, a_mi h.N h.R.1 hP h.T.1, a_mi h'.N h'.R.1 hP' h'.T.1]
  by_cases q : v (N_pk v r k i).toNat = 1
  · left
    obtain ⟨e1, e2⟩ := N_qv_known q
    rw [e1, e2, ja_rs_s]
    exact ⟨rfl, rfl⟩
  · right
    obtain ⟨e1, e2, e3, e4⟩ := N_qv_new h.N (by omega) hr hP q
    exact ⟨e1, e2, e3, e4⟩
/-- what unrestorable answers -/
def e_unr (mem : ja_M) (y : Nat) (k : Int) : Int := J_bc ((ja_shl 1 (ja_cells mem (y + 1 + 1)) - 1) &&& (F_cp mem (y + 1 + 1) (-1) 37 (F_kn mem (y + 1 + 1) (y + 1 + 2) k) ^^^ (-1)))
theorem I7_unr {k : Int} (h : I7 lay mem n y sl t v) (hk : N_hB v k) : 0 ≤ e_unr mem y k ∧ e_unr mem y k ≤ mem (y + 1 + 1) 3 * mem (y + 1 + 1) 4 := by
  unfold e_unr
  rw [a_ur h.N h.R.1 hk h.T.1, h.set 3 (by omega), h.set 4 (by omega)]
  unfold N_ur
  have h1 := @N_un_le (N_rs 1 k 40 0 v).2 (N_ar v * k) (N_ar v).toNat
  have h2 := N_ar_in h.N.1.S
  have h3 : N_ar v = v 3 * v 4 := rfl
  omega
end
