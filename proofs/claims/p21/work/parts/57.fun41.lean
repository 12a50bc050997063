-- THE PLAYER OF BOTH, BUT FOR THE SAMPLES
def S_p : S_T := fun mem b v => (mem (b + 9) 1 = v 22 ∧ mem (b + 9) 2 = v 23 ∧ mem (b + 9) 4 = v 12 ∧ mem (b + 9) 6 = v 11) ∧ (∀ i : Nat, i < 32 → (i : Int) < v 11 → mem (b + 12) ((v 11 - 1 - i) % 32).toNat = v (2310 + i)) ∧ (mem (b + 14) 0 = v 19 ∧ mem (b + 14) 1 = v 20 ∧ mem (b + 14) 2 = v 21 ∧ mem (b + 14) 3 = v 15 ∧ mem (b + 14) 4 = v 16 ∧ mem (b + 14) 5 = v 17 ∧ mem (b + 14) 6 = v 18 ∧ mem (b + 14) 7 = v 13 ∧ mem (b + 14) 8 = v 14)
theorem S_p_cg {mem mem' : ja_M} {b : Nat} {v v' : Nat → Int} (h9 : ∀ j, (j = 1 ∨ j = 2 ∨ j = 4 ∨ j = 6) → mem' (b + 9) j = mem (b + 9) j) (h12 : mem' (b + 12) = mem (b + 12)) (h14 : mem' (b + 14) = mem (b + 14)) (hv : ∀ j, ((11 ≤ j ∧ j < 24) ∨ (2310 ≤ j ∧ j < 2342)) → v' j = v j) (h : S_p mem b v) : S_p mem' b v' := by
  obtain ⟨h1, h2, h3⟩ := h
  unfold S_p
  rw [h9 1 (by omega), h9 2 (by omega), h9 4 (by omega), h9 6 (by omega), h12, h14, hv 22 (by omega), hv 23 (by omega), hv 12 (by omega), hv 11 (by omega), hv 19 (by omega), hv 20 (by omega), hv 21 (by omega), hv 15 (by omega), hv 16 (by omega), hv 17 (by omega), hv 18 (by omega), hv 13 (by omega), hv 14 (by omega)]
  exact ⟨h1, fun i i1 i2 => by rw [hv _ (by omega)]; exact h2 i i1 i2, h3⟩
-- the reference
theorem N_gs_22 {w h : Nat → Int} : ∀ k : Nat, N_gs w h k 22 = w 22 + k
  | 0 => by
    simp only [N_gs]
    omega
  | k + 1 => by
    rw [N_gs_s]
    unfold N_gi
    rw [ja_rs_s, N_gs_22 k]
    omega
theorem N_gs_lo {w h : Nat → Int} (h0 : 0 ≤ w 22) {j : Nat} (hj : j < 2342) (h22 : j ≠ 22) : ∀ k : Nat, N_gs w h k j = w j
  | 0 => rfl
  | k + 1 => by
    have e := @N_gs_22 w h k
    rw [N_gs_s]
    unfold N_gi
    rw [ja_rs_n h22, ja_rs_n (by omega)]
    exact N_gs_lo h0 hj h22 k
theorem N_sk_v {w : Nat → Int} : ∀ (j : Nat), j ≤ 31 → ∀ e, e < j → N_sk w j (2341 - e) = w (2340 - e)
  | 0, _, e, he => by omega
  | j + 1, hj, e, he => by
    simp only [N_sk]
    by_cases hej : e = j
    · subst hej
      rw [ja_rs_s]
    · rw [ja_rs_n (by omega)]
      exact N_sk_v j (by omega) e (by omega)
theorem N_td_e (u : Nat → Int) {kd : Int} (hk : 1 ≤ kd ∧ kd ≤ 3) (j : Nat) : N_td u kd j = u j + if (j : Int) = 18 + kd then 1 else 0 := by
  unfold N_td
  by_cases h : (j : Int) = 18 + kd
  · rw [if_pos h, show (18 + kd).toNat = j by omega, ja_rs_s]
  · rw [if_neg h, ja_rs_n (by omega)]
    omega
theorem N_tk_e (v : Nat → Int) {j : Nat} (h11 : j ≠ 11) (hj : j < 2310) : N_tk v j = N_tu v j + if (j : Int) = 18 + N_kd v (v 11) then 1 else 0 := by
  have hk := @N_kd_in v (v 11)
  unfold N_tk N_te
  rw [ja_rs_n h11, ja_rs_n (by omega), N_sk_n 31 (by omega) (by omega), N_td_e _ hk]
theorem N_tk_kd {v : Nat → Int} {t : Int} (hO : N_O v t) (hn : v 11 ≤ 999) (i : Nat) (hi : i < 32) : N_tk v (2310 + i) = if i = 0 then N_kd v (v 11) else v (2310 + i - 1) := by
  have hk := @N_kd_in v (v 11)
  have hu := (N_tu_R hO hn).2.1
  unfold N_tk N_te
  rw [ja_rs_n (by omega)]
  by_cases h0 : i = 0
  · subst h0
    rw [if_pos rfl]
    exact ja_rs_s _ _ _
  · have e := N_sk_v (w := N_td (N_tu v) (N_kd v (v 11))) 31 (by omega) (31 - i) (by omega)
    rw [show 2341 - (31 - i) = 2310 + i by omega, show 2340 - (31 - i) = 2310 + i - 1 by omega] at e
    rw [if_neg h0, ja_rs_n (by omega), e, N_td_e _ hk, if_neg (by omega), hu _ (by omega)]
    omega
/-- taken as concealed -/
theorem N_tu_3 {v : Nat → Int} (h : N_kd v (v 11) = 3) : N_tu v 13 = v 13 + 1 ∧ N_tu v 14 = (if v 14 < v 13 + 1 then v 13 + 1 else v 14) ∧ N_tu v 22 = ((v 0).toNat : Int) ∧ ∀ j, 15 ≤ j → j < 22 → N_tu v j = v j := by
  have e : N_tu v = N_co (N_tc (N_t0 v)) := if_pos h
  have c22 : N_tc (N_t0 v) 22 = 0 := by
    unfold N_tc N_t0
    rw [ja_rs_n (by omega), ja_rs_n (by omega), ja_rs_n (by omega), ja_rs_s]
  have c0 : N_tc (N_t0 v) 0 = v 0 := by
    unfold N_tc N_t0
    rw [ja_rs_n (by omega), ja_rs_n (by omega), ja_rs_n (by omega), ja_rs_n (by omega)]
  have e13 : N_t0 v 13 = v 13 := by
    unfold N_t0
    rw [ja_rs_n (by omega), ja_rs_n (by omega)]
  have e14 : N_t0 v 14 = v 14 := by
    unfold N_t0
    rw [ja_rs_n (by omega), ja_rs_n (by omega)]
  rw [e]
  unfold N_co
  rw [N_gs_lo (by omega) (by omega) (by omega), N_gs_lo (by omega) (by omega) (by omega), N_gs_22, c22, c0]
  refine ⟨?_, ?_, by omega, fun j j1 j2 => ?_⟩
  · unfold N_tc
    rw [ja_rs_n (by omega), ja_rs_s, e13]
  · unfold N_tc
    rw [ja_rs_s, e13, e14]
  · rw [N_gs_lo (by omega) (by omega) (by omega)]
    unfold N_tc N_t0
    rw [ja_rs_n (by omega), ja_rs_n (by omega), ja_rs_n (by omega), ja_rs_n (by omega)]
/-- how long a frame is played -/
def N_ln (u : Nat → Int) (x : Int) : Int := if N_sht u x then u 0 - N_lf u x else if N_lng u x then u 0 + N_lf u x else u 0
theorem N_fi_v {u : Nat → Int} {x : Int} (hS : N_S u) (h22 : u 22 = 0) : N_fi u x 22 = N_ln u x ∧ N_fi u x 15 = u 15 + ja_b (N_lng u x) ∧ N_fi u x 16 = u 16 + ja_b (N_sht u x) ∧ ∀ j, j < 2342 → j ≠ 22 → j ≠ 15 → j ≠ 16 → N_fi u x j = u j := by
  have hl := @N_lf_in u x hS
  have f22 : N_f0 u x 22 = 0 := by
    unfold N_f0
    rw [ja_rs_n (by omega), ja_rs_n (by omega)]
    exact h22
  have f15 : N_f0 u x 15 = u 15 + ja_b (N_lng u x) := by
    unfold N_f0
    rw [ja_rs_s]
  have f16 : N_f0 u x 16 = u 16 + ja_b (N_sht u x) := by
    unfold N_f0
    rw [ja_rs_n (by omega), ja_rs_s]
  have fj : ∀ j, j ≠ 15 → j ≠ 16 → N_f0 u x j = u j := fun j a c => by
    unfold N_f0
    rw [ja_rs_n a, ja_rs_n c]
  have g22 : ∀ (h : Nat → Int) (k : Nat), 0 ≤ N_gs (N_f0 u x) h k 22 := fun h k => by
    rw [N_gs_22]
    omega
  have hlo : ∀ j, j < 2342 → j ≠ 22 → N_fi u x j = N_f0 u x j := fun j a c => by
    unfold N_fi
    split
    · rw [N_gs_lo (g22 _ _) a c, N_gs_lo (by omega) a c]
    · split
      · rw [N_gs_lo (by rw [N_gs_22]; have := g22 (N_wx u x) (N_lf u x).toNat; omega) a c, N_gs_lo (g22 _ _) a c, N_gs_lo (by omega) a c]
      · rw [N_gs_lo (g22 _ _) a c, N_gs_lo (by omega) a c]
  refine ⟨?_, by rw [hlo 15 (by omega) (by omega)]; exact f15, by rw [hlo 16 (by omega) (by omega)]; exact f16, fun j a c d e => by rw [hlo j a c]; exact fj j d e⟩
  unfold N_fi N_ln
  split
  · rw [N_gs_22, N_gs_22, f22]
    omega
  · split
    · rw [N_gs_22, N_gs_22, N_gs_22, f22]
      omega
    · rw [N_gs_22, N_gs_22, f22]
      omega
-- the class
theorem P_lg_k {g g' : Nat → Int} {ex : Int} : ∀ k : Nat, (∀ j, j < 2 * (k + 2) → g j = g' j) → P_lg g ex k = P_lg g' ex k := by
  have d : ∀ (p i : Nat), (∀ j, j < i + p → g j = g' j) → P_dif g p i = P_dif g' p i := fun p i => by
    induction i with
    | zero =>
      intro _
      rfl
    | succ i ih =>
      intro h
      simp only [P_dif]
      rw [ih (fun j hj => h j (by omega)), h i (by omega), h (i + p) (by omega)]
  intro k
  induction k with
  | zero =>
    intro h
    simp only [P_lg]
    rw [d 2 2 (fun j hj => h j (by omega))]
  | succ k ih =>
    intro h
    simp only [P_lg]
    rw [ih (fun j hj => h j (by omega)), d (k + 3) (k + 3) (fun j hj => h j (by omega))]
theorem P_ldr_v {mem : ja_M} {s : Nat} {x : Int} {f : Nat → Int} : ∀ k j : Nat, j < k → P_ldr mem s x f k j = ja_wave mem s x j
  | 0, j, hj => by omega
  | k + 1, j, hj => by
    simp only [P_ldr]
    by_cases h : j = k
    · subst h
      rw [ja_rs_s]
    · rw [ja_rs_n h]
      exact P_ldr_v k j (by omega)
theorem P_beg_3 {mem : ja_M} {a : Nat} {k : Int} (j : Nat) : P_beg mem a k (a + 3) j = if j = (mem a 6 % 32).toNat then k else mem (a + 3) j := by
  unfold P_beg
  rw [ja_up_a (by omega), ja_up_a (by omega), ja_up_a (by omega)]
  by_cases h : j = (mem a 6 % 32).toNat
  · rw [if_pos h, h, ja_up_s]
  · rw [if_neg h, ja_up_j h]
/-- the player's row behind a frame taken -/
def P_rw (M mem : ja_M) (b : Nat) (kd ln : Int) : Prop := (M (b + 9) 1 = ln ∧ M (b + 9) 2 = 0 ∧ M (b + 9) 4 = mem (b + 9) 4 ∧ M (b + 9) 6 = mem (b + 9) 6 + 1) ∧ ∀ j, M (b + 12) j = if j = (mem (b + 9) 6 % 32).toNat then kd else mem (b + 12) j
theorem P_pts_n {mem : ja_M} {a : Nat} {h : Nat → Int} {k : Nat} (h0 : 0 ≤ mem a 1) (h1 : mem a 1 + k ≤ 24) : P_pts mem a h k a 1 = mem a 1 + k := by
  rw [P_pts_1 ⟨h0, by omega⟩, if_pos h1]
theorem P_cpr_n {mem : ja_M} {a : Nat} {n : Int} (h1 : mem a 1 = 0) (hn : n ≤ 16) (hl : 2 ≤ (P_lg (mem (a + 4)) 1 (n / 2 - 2).toNat).1 ∧ 2 * (P_lg (mem (a + 4)) 1 (n / 2 - 2).toNat).1 ≤ n) : P_cpr mem a n a 1 = n - (P_lg (mem (a + 4)) 1 (n / 2 - 2).toNat).1 ∧ (∀ j, j ≠ 1 → P_cpr mem a n a j = mem a j) := by
  unfold P_cpr
  generalize (P_lg (mem (a + 4)) 1 (n / 2 - 2).toNat).1 = p at *
  refine ⟨?_, fun j hj => by rw [P_pts_j hj, P_pts_j hj]⟩
  have e := P_pts_n (mem := mem) (a := a) (h := fun i => P_mx (mem (a + 4) i) (mem (a + 4) (i + p.toNat)) p i) (k := p.toNat) (by omega) (by omega)
  rw [P_pts_n (by rw [e]; omega) (by rw [e]; omega), e]
  omega
theorem P_str_n {mem : ja_M} {a : Nat} {n : Int} (h1 : mem a 1 = 0) (hn : n ≤ 16) (hl : 2 ≤ (P_lg (mem (a + 4)) 1 (n / 2 - 2).toNat).1 ∧ 2 * (P_lg (mem (a + 4)) 1 (n / 2 - 2).toNat).1 ≤ n) : P_str mem a n a 1 = n + (P_lg (mem (a + 4)) 1 (n / 2 - 2).toNat).1 ∧ (∀ j, j ≠ 1 → P_str mem a n a j = mem a j) := by
  unfold P_str
  generalize (P_lg (mem (a + 4)) 1 (n / 2 - 2).toNat).1 = p at *
  refine ⟨?_, fun j hj => by rw [P_pts_j hj, P_pts_j hj, P_pts_j hj]⟩
  have e := P_pts_n (mem := mem) (a := a) (h := fun i => mem (a + 4) (0 + i)) (k := p.toNat) (by omega) (by omega)
  have e2 := P_pts_n (mem := P_pts mem a (fun i => mem (a + 4) (0 + i)) p.toNat) (a := a) (h := fun i => P_mx (mem (a + 4) (i + p.toNat)) (mem (a + 4) i) p i) (k := p.toNat) (by rw [e]; omega) (by rw [e]; omega)
  rw [P_pts_n (by rw [e2, e]; omega) (by rw [e2, e]; omega), e2, e]
  omega
theorem P_con_rw {mem : ja_M} {b : Nat} {n g : Int} (hn : 0 ≤ n ∧ n ≤ 24) : P_rw (P_con (P_beg (C_co mem (b + 14)) (b + 9) 3) (b + 9) n g) mem b 3 n ∧ P_con (P_beg (C_co mem (b + 14)) (b + 9) 3) (b + 9) n g (b + 14) = C_co mem (b + 14) (b + 14) := by
  obtain ⟨p1, p2, p4, p6⟩ := @P_beg_s (C_co mem (b + 14)) (b + 9) 3
  have c9 : C_co mem (b + 14) (b + 9) = mem (b + 9) := C_co_o (by omega)
  have c12 : C_co mem (b + 14) (b + 12) = mem (b + 12) := C_co_o (by omega)
  rw [c9] at p4 p6
  have hj : ∀ j, j ≠ 1 → P_con (P_beg (C_co mem (b + 14)) (b + 9) 3) (b + 9) n g (b + 9) j = P_beg (C_co mem (b + 14)) (b + 9) 3 (b + 9) j := fun j h => by
    unfold P_con
    rw [P_pts_j h, ja_rw_n (by omega)]
  refine ⟨⟨⟨?_, by rw [hj 2 (by omega)]; exact p2, by rw [hj 4 (by omega)]; exact p4, by rw [hj 6 (by omega)]; exact p6⟩, fun j => ?_⟩, ?_⟩
  · unfold P_con
    rw [P_pts_n (by rw [ja_rw_n (by omega), p1]; omega) (by rw [ja_rw_n (by omega), p1]; omega), ja_rw_n (by omega), p1]
    omega
  · rw [P_con_o ⟨by omega, by omega⟩ (by omega)]
    have h3 := P_beg_3 (mem := C_co mem (b + 14)) (a := b + 9) (k := 3) j
    rw [show b + 9 + 3 = b + 12 from rfl, c9, c12] at h3
    exact h3
  · rw [P_con_o ⟨by omega, by omega⟩ (by omega), P_beg_o ⟨by omega, by omega⟩]
theorem S_p_tk {mem M : ja_M} {b : Nat} {v : Nat → Int} {t : Int} (hO : N_O v t) (hn : v 11 ≤ 999) (h : S_p mem b v) (hr : P_rw M mem b (N_kd v (v 11)) (N_tk v 22)) (h14 : M (b + 14) 0 = N_tk v 19 ∧ M (b + 14) 1 = N_tk v 20 ∧ M (b + 14) 2 = N_tk v 21 ∧ M (b + 14) 3 = N_tk v 15 ∧ M (b + 14) 4 = N_tk v 16 ∧ M (b + 14) 5 = N_tk v 17 ∧ M (b + 14) 6 = N_tk v 18 ∧ M (b + 14) 7 = N_tk v 13 ∧ M (b + 14) 8 = N_tk v 14) : S_p M b (N_tk v) := by
  obtain ⟨-, k11, k23, kk⟩ := N_tk_O hO hn
  have hC := hO.1.C
  obtain ⟨⟨p1, p2, p4, p6⟩, hkd, -⟩ := h
  obtain ⟨⟨r1, r2, r4, r6⟩, r12⟩ := hr
  refine ⟨⟨r1, by rw [k23]; exact r2, by rw [r4, kk 12 (by omega)]; exact p4, by rw [r6, k11, p6]⟩, fun i i1 i2 => ?_, h14⟩
  rw [k11] at i2 ⊢
  rw [r12, p6, N_tk_kd hO hn i i1]
  by_cases h0 : i = 0
  · rw [if_pos h0, if_pos (by omega)]
  · rw [if_neg h0, if_neg (by omega)]
    have := hkd (i - 1) (by omega) (by omega)
    rw [show ((v 11 + 1 - 1 - (i : Int)) % 32).toNat = ((v 11 - 1 - ((i - 1 : Nat) : Int)) % 32).toNat by omega, this]
    congr 1
    omega
