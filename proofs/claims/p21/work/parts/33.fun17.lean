-- samples
/-- only the sorted row may have changed -/
def N_g6 (m : Nat) (G G' : ja_M) : Prop := ∀ q, q ≠ m + 6 → G' q = G q
theorem N_g6.ge {m : Nat} {G G' : ja_M} (h : N_g6 m G G') : N_ge m G G' := fun q h6 _ => h q h6
def N_gi (w : Nat → Int) (s : Int) : Nat → Int := ja_rs (ja_rs w (2342 + w 22).toNat s) 22 (w 22 + 1)
def N_gs (w : Nat → Int) (h : Nat → Int) : Nat → (Nat → Int)
  | 0 => w
  | k + 1 => N_gi (N_gs w h k) (h k)
theorem N_gs_s {w h : Nat → Int} {k : Nat} : N_gs w h (k + 1) = N_gi (N_gs w h k) (h k) := rfl
/-- samples were given: the waiting ones and their number alone are new -/
def N_q (v w : Nat → Int) : Prop := ∀ j, j ≠ 22 → (j < 2342 ∨ 2372 ≤ j) → w j = v j
theorem N_q.rf {v : Nat → Int} : N_q v v := fun _ _ _ => rfl
theorem N_q.tr {u v w : Nat → Int} (h : N_q u v) (h2 : N_q v w) : N_q u w := fun j a b => (h2 j a b).trans (h j a b)
theorem N_q.ss {v w : Nat → Int} (h : N_q v w) : N_ss v w := fun j hj => h j (by omega) (by omega)
theorem N_gi_R {w : Nat → Int} {s : Int} (hR : N_R w) (hs : ja_sp s) (h22 : w 22 ≤ 23) : N_R (N_gi w s) ∧ N_gi w s 22 = w 22 + 1 ∧ N_q w (N_gi w s) := by
  have hC := hR.C
  unfold N_gi
  refine ⟨(hR.rs ((N_inG (by omega) (by omega)).mpr hs)).rs (show 0 ≤ w 22 + 1 ∧ w 22 + 1 ≤ 24 by omega), ja_rs_s _ _ _, fun j a b => ?_⟩
  rw [ja_rs_n a, ja_rs_n (by omega)]
theorem N_gs_R {w h : Nat → Int} (hR : N_R w) : ∀ k : Nat, (∀ j, j < k → ja_sp (h j)) → w 22 + k ≤ 24 → N_R (N_gs w h k) ∧ N_gs w h k 22 = w 22 + k ∧ N_q w (N_gs w h k)
  | 0, _, _ => ⟨hR, by simp [N_gs], N_q.rf⟩
  | k + 1, hs, hk => by
    obtain ⟨i1, i2, i3⟩ := N_gs_R hR k (fun j hj => hs j (by omega)) (by omega)
    obtain ⟨g1, g2, g3⟩ := N_gi_R i1 (hs k (by omega)) (by omega)
    exact ⟨g1, by show N_gi (N_gs w h k) (h k) 22 = _; rw [g2, i2]; omega, i3.tr g3⟩
def N_wx (v : Nat → Int) (x : Int) : Nat → Int := fun j => N_wv v x j
theorem N_wx_in {v : Nat → Int} {x : Int} (j : Nat) : ja_sp (N_wx v x j) := N_wv_in
abbrev N_lf (v : Nat → Int) (x : Int) : Int := (P_lg (N_wx v x) 1 (v 0 / 2 - 2).toNat).1
abbrev N_sht (v : Nat → Int) (x : Int) : Prop := v 8 = 1 ∧ N_tg v + v 0 < N_lv v (x + 1)
abbrev N_lng (v : Nat → Int) (x : Int) : Prop := v 8 = 1 ∧ N_lv v (x + 1) + v 0 < N_tg v
def N_f0 (v : Nat → Int) (x : Int) : Nat → Int := ja_rs (ja_rs v 16 (v 16 + ja_b (N_sht v x))) 15 (v 15 + ja_b (N_lng v x))
def N_m1 (v : Nat → Int) (x : Int) : Nat → Int := fun i => P_mx (N_wx v x i) (N_wx v x (i + (N_lf v x).toNat)) (N_lf v x) i
def N_m2 (v : Nat → Int) (x : Int) : Nat → Int := fun i => P_mx (N_wx v x (i + (N_lf v x).toNat)) (N_wx v x i) (N_lf v x) i
def N_fi (v : Nat → Int) (x : Int) : Nat → Int :=
  if N_sht v x then N_gs (N_gs (N_f0 v x) (N_m1 v x) (N_lf v x).toNat) (fun i => N_wx v x ((2 * N_lf v x).toNat + i)) (v 0 - 2 * N_lf v x).toNat
  else if N_lng v x then N_gs (N_gs (N_gs (N_f0 v x) (N_wx v x) (N_lf v x).toNat) (N_m2 v x) (N_lf v x).toNat) (fun i => N_wx v x ((N_lf v x).toNat + i)) (v 0 - N_lf v x).toNat
  else N_gs (N_gs (N_f0 v x) (N_wx v x) (N_lf v x).toNat) (fun i => N_wx v x ((N_lf v x).toNat + i)) (v 0 - N_lf v x).toNat
theorem N_lf_in {v : Nat → Int} {x : Int} (hS : N_S v) : 2 ≤ N_lf v x ∧ 2 * N_lf v x ≤ v 0 := by
  have h0 := hS.1
  have := P_lg_in (ex := 1) (N_wx_in (v := v) (x := x)) (v 0 / 2 - 2).toNat (by omega)
  unfold N_lf
  omega
theorem N_m1_in {v : Nat → Int} {x : Int} (hS : N_S v) (j : Nat) (hj : j < (N_lf v x).toNat) : ja_sp (N_m1 v x j) := by
  have := @N_lf_in v x hS
  exact P_mx_in (N_wx_in _) (N_wx_in _) ⟨by omega, by omega⟩ (by omega)
theorem N_m2_in {v : Nat → Int} {x : Int} (hS : N_S v) (j : Nat) (hj : j < (N_lf v x).toNat) : ja_sp (N_m2 v x j) := by
  have := @N_lf_in v x hS
  exact P_mx_in (N_wx_in _) (N_wx_in _) ⟨by omega, by omega⟩ (by omega)
/-- but for the counters of stretched and compressed -/
def N_q2 (v w : Nat → Int) : Prop := ∀ j, j ≠ 22 → j ≠ 15 → j ≠ 16 → (j < 2342 ∨ 2372 ≤ j) → w j = v j
theorem N_f0_R {v : Nat → Int} {x : Int} (hR : N_R v) : N_R (N_f0 v x) ∧ N_f0 v x 22 = v 22 ∧ N_q2 v (N_f0 v x) := by
  unfold N_f0
  refine ⟨(hR.rs (i := 16) trivial).rs (i := 15) trivial, by rw [ja_rs_n (by omega), ja_rs_n (by omega)], fun j a b c d => by rw [ja_rs_n (by omega), ja_rs_n (by omega)]⟩
theorem N_q2.q {u v w : Nat → Int} (h : N_q2 u v) (h2 : N_q v w) : N_q2 u w := fun j a b c d => (h2 j a d).trans (h j a b c d)
theorem N_fi_R {v : Nat → Int} {x : Int} (hR : N_R v) (h22 : v 22 = 0) : N_R (N_fi v x) ∧ N_q2 v (N_fi v x) := by
  have hS := hR.S
  have h0 := hS.1
  have hl := @N_lf_in v x hS
  obtain ⟨a1, a2, a3⟩ := N_f0_R (x := x) hR
  unfold N_fi
  split
  · obtain ⟨b1, b2, b3⟩ := N_gs_R (h := N_m1 v x) a1 (N_lf v x).toNat (N_m1_in hS) (by omega)
    obtain ⟨c1, c2, c3⟩ := N_gs_R (h := fun i => N_wx v x ((2 * N_lf v x).toNat + i)) b1 (v 0 - 2 * N_lf v x).toNat (fun j _ => N_wx_in _) (by omega)
    exact ⟨c1, a3.q (b3.tr c3)⟩
  · obtain ⟨b1, b2, b3⟩ := N_gs_R (h := N_wx v x) a1 (N_lf v x).toNat (fun j _ => N_wx_in _) (by omega)
    split
    · obtain ⟨c1, c2, c3⟩ := N_gs_R (h := N_m2 v x) b1 (N_lf v x).toNat (N_m2_in hS) (by omega)
      obtain ⟨d1, d2, d3⟩ := N_gs_R (h := fun i => N_wx v x ((N_lf v x).toNat + i)) c1 (v 0 - N_lf v x).toNat (fun j _ => N_wx_in _) (by omega)
      exact ⟨d1, a3.q ((b3.tr c3).tr d3)⟩
    · obtain ⟨d1, d2, d3⟩ := N_gs_R (h := fun i => N_wx v x ((N_lf v x).toNat + i)) b1 (v 0 - N_lf v x).toNat (fun j _ => N_wx_in _) (by omega)
      exact ⟨d1, a3.q (b3.tr d3)⟩
-- concealing
def N_ol (v : Nat → Int) (b : Int) : Int := v (2054 + (v 12 - b) % 256).toNat
def N_og (v : Nat → Int) : Nat → Int := fun j => N_ol v ((j : Int) + 1)
theorem N_ol_in {v : Nat → Int} {b : Int} (hR : N_R v) : ja_sp (N_ol v b) := hR.H (j := (2054 + (v 12 - b) % 256).toNat) (by omega) (by omega)
def N_lk (v : Nat → Int) : Nat := ((if 16 < v 12 / 2 then 16 else v 12 / 2) - 2).toNat
def N_lh (v : Nat → Int) : Int := if v 12 < 4 then 0 else (P_lg (N_og v) 1 (N_lk v)).1
theorem N_lh_in {v : Nat → Int} (hR : N_R v) : (N_lh v = 0 ∨ 2 ≤ N_lh v) ∧ 2 * N_lh v ≤ v 12 ∧ 0 ≤ N_lh v ∧ N_lh v ≤ 16 := by
  have hC := hR.C
  unfold N_lh
  split
  · omega
  · have hk : N_lk v ≤ 14 ∧ 2 * ((N_lk v : Int) + 2) ≤ v 12 := by
      unfold N_lk
      split <;> omega
    have := P_lg_in (ex := 1) (g := N_og v) (fun j => N_ol_in hR) (N_lk v) (by omega)
    omega
def N_fd : Nat → Int → Int
  | 0, x => x
  | k + 1, x => N_fd k ((x * 3).tdiv 4)
theorem N_fd_in : ∀ (k : Nat) (x : Int), ja_sp x → ja_sp (N_fd k x)
  | 0, x, h => h
  | k + 1, x, h => N_fd_in k _ (P_fd1 h)
def N_cm (v : Nat → Int) : Nat → Int := fun j => N_fd (v 13).toNat (if N_lh v = 0 then 0 else N_ol v (N_lh v - (j : Int) % N_lh v))
theorem N_cm_in {v : Nat → Int} (hR : N_R v) (j : Nat) : ja_sp (N_cm v j) := by
  unfold N_cm
  refine N_fd_in _ _ ?_
  split
  · exact ⟨by omega, by omega⟩
  · exact N_ol_in hR
def N_co (v : Nat → Int) : Nat → Int := N_gs v (N_cm v) (v 0).toNat
-- taking
def N_kd (v : Nat → Int) (x : Int) : Int := if v (30 + x).toNat = 2 then 1 else if v (30 + x).toNat = 1 then 2 else 3
def N_sk (w : Nat → Int) : Nat → (Nat → Int)
  | 0 => w
  | j + 1 => ja_rs (N_sk w j) (2341 - j) (w (2340 - j))
def N_t0 (v : Nat → Int) : Nat → Int := ja_rs (ja_rs v 22 0) 23 0
def N_tc (u : Nat → Int) : Nat → Int := ja_rs (ja_rs u 13 (u 13 + 1)) 14 (if u 14 < u 13 + 1 then u 13 + 1 else u 14)
def N_tu (v : Nat → Int) : Nat → Int := if N_kd v (v 11) = 3 then N_co (N_tc (N_t0 v)) else N_fi (ja_rs (N_t0 v) 13 0) (v 11)
def N_td (u : Nat → Int) (kd : Int) : Nat → Int := ja_rs u (18 + kd).toNat (u (18 + kd).toNat + 1)
def N_te (u : Nat → Int) (kd : Int) : Nat → Int := ja_rs (ja_rs (N_sk u 31) 2310 kd) 11 (u 11 + 1)
def N_tk (v : Nat → Int) : Nat → Int := N_te (N_td (N_tu v) (N_kd v (v 11))) (N_kd v (v 11))
-- a tick
def N_t1 (v : Nat → Int) : Nat → Int := ja_rs (N_as v) 27 0
def N_t2 (a : Nat → Int) : Nat → Int := if a 23 = a 22 ∧ a 11 ≤ 999 then ja_rs (N_tk a) 27 (N_tk a 2310) else a
def N_t3 (b : Nat → Int) : Nat → Int := if b 23 < b 22 then ja_rs (ja_rs (ja_rs b (2054 + b 12 % 256).toNat (b (2342 + b 23).toNat)) 12 (b 12 + 1)) 23 (b 23 + 1) else b
abbrev N_on (a : Nat → Int) : Prop := 0 ≤ a 10 ∧ a 10 ≤ a 9
def N_pl (a : Nat → Int) : Nat → Int := if N_on a then N_t3 (N_t2 a) else a
def N_ti (v : Nat → Int) : Nat → Int := ja_rs (N_pl (N_t1 v)) 9 (N_pl (N_t1 v) 9 + 1)
def N_to (v : Nat → Int) : Int := if N_on (N_t1 v) ∧ N_t2 (N_t1 v) 23 < N_t2 (N_t1 v) 22 then 1 else 0
theorem N_kd_in {v : Nat → Int} {x : Int} : 1 ≤ N_kd v x ∧ N_kd v x ≤ 3 := by
  unfold N_kd
  split
  · omega
  · split <;> omega
theorem N_sk_n {w : Nat → Int} {q : Nat} : ∀ j : Nat, j ≤ 31 → (q ≤ 2341 - j ∨ 2342 ≤ q) → N_sk w j q = w q
  | 0, _, _ => rfl
  | j + 1, hj, h => by
    simp only [N_sk]
    rw [ja_rs_n (by omega)]
    exact N_sk_n j (by omega) (by omega)
theorem N_sk_R {w : Nat → Int} (hR : N_R w) : ∀ j : Nat, j ≤ 31 → N_R (N_sk w j)
  | 0, _ => hR
  | j + 1, hj => (N_sk_R hR j (by omega)).rs ((N_inD (by omega) (by omega)).mpr (hR.D (by omega) (by omega)))
theorem N_tu_R {v : Nat → Int} {t : Int} (h : N_O v t) (hn : v 11 ≤ 999) : N_R (N_tu v) ∧ (∀ j, (j < 13 ∨ (17 ≤ j ∧ j < 22) ∨ (23 < j ∧ j < 2342) ∨ 2372 ≤ j) → N_tu v j = v j) ∧ N_tu v 23 = 0 ∧ (0 ≤ N_tu v 13 ∧ N_tu v 13 ≤ v 11 + 1) ∧ (0 ≤ N_tu v 14 ∧ N_tu v 14 ≤ v 11 + 1) := by
  obtain ⟨hR, ⟨o1, o2, o3, o4, o5, o6, o7⟩, hP⟩ := h
  have hC := hR.C
  have hR0 : N_R (N_t0 v) := (hR.rs (i := 22) (show (0 : Int) ≤ 0 ∧ (0 : Int) ≤ 24 by omega)).rs (i := 23) (show (0 : Int) ≤ 0 ∧ (0 : Int) ≤ 24 by omega)
  have e0 : ∀ j, j ≠ 22 → j ≠ 23 → N_t0 v j = v j := fun j a b => by unfold N_t0; rw [ja_rs_n b, ja_rs_n a]
  have e22 : N_t0 v 22 = 0 := by unfold N_t0; rw [ja_rs_n (by omega), ja_rs_s]
  have e23 : N_t0 v 23 = 0 := by unfold N_t0; rw [ja_rs_s]
  have e13 := e0 13 (by omega) (by omega)
  have e14 := e0 14 (by omega) (by omega)
  unfold N_tu
  split
  · have hR1 : N_R (N_tc (N_t0 v)) := by
      unfold N_tc
      exact (hR0.rs (i := 13) (show 0 ≤ N_t0 v 13 + 1 ∧ N_t0 v 13 + 1 ≤ 1000 by omega)).rs (i := 14) (show 0 ≤ _ ∧ _ ≤ (1000 : Int) by split <;> omega)
    have c0 : ∀ j, j ≠ 13 → j ≠ 14 → N_tc (N_t0 v) j = N_t0 v j := fun j a b => by unfold N_tc; rw [ja_rs_n b, ja_rs_n a]
    have c13 : N_tc (N_t0 v) 13 = v 13 + 1 := by unfold N_tc; rw [ja_rs_n (by omega), ja_rs_s, e13]
    have c14 : N_tc (N_t0 v) 14 = if v 14 < v 13 + 1 then v 13 + 1 else v 14 := by unfold N_tc; rw [ja_rs_s, e13, e14]
    have hs0 := hR1.S.1
    obtain ⟨g1, g2, g3⟩ := N_gs_R (h := N_cm (N_tc (N_t0 v))) hR1 (N_tc (N_t0 v) 0).toNat (fun j _ => N_cm_in hR1 j) (by rw [c0 22 (by omega) (by omega), e22]; omega)
    refine ⟨g1, fun j hj => ?_, ?_, ?_, ?_⟩
    · exact (g3 j (by omega) (by omega)).trans ((c0 j (by omega) (by omega)).trans (e0 j (by omega) (by omega)))
    · exact (g3 23 (by omega) (by omega)).trans ((c0 23 (by omega) (by omega)).trans e23)
    · rw [show N_co (N_tc (N_t0 v)) 13 = v 13 + 1 from (g3 13 (by omega) (by omega)).trans c13]
      omega
    · rw [show N_co (N_tc (N_t0 v)) 14 = _ from (g3 14 (by omega) (by omega)).trans c14]
      split <;> omega
  · have hR1 : N_R (ja_rs (N_t0 v) 13 0) := hR0.rs (show (0 : Int) ≤ 0 ∧ (0 : Int) ≤ 1000 by omega)
    obtain ⟨f1, f2⟩ := N_fi_R (x := v 11) hR1 (by rw [ja_rs_n (by omega), e22])
    refine ⟨f1, fun j hj => ?_, ?_, ?_, ?_⟩
    · exact (f2 j (by omega) (by omega) (by omega) (by omega)).trans ((ja_rs_n (by omega)).trans (e0 j (by omega) (by omega)))
    · exact (f2 23 (by omega) (by omega) (by omega) (by omega)).trans ((ja_rs_n (by omega)).trans e23)
    · rw [show N_fi (ja_rs (N_t0 v) 13 0) (v 11) 13 = 0 from (f2 13 (by omega) (by omega) (by omega) (by omega)).trans (ja_rs_s _ _ _)]
      omega
    · rw [show N_fi (ja_rs (N_t0 v) 13 0) (v 11) 14 = v 14 from (f2 14 (by omega) (by omega) (by omega) (by omega)).trans ((ja_rs_n (by omega)).trans e14)]
      omega
theorem N_tk_O {v : Nat → Int} {t : Int} (h : N_O v t) (hn : v 11 ≤ 999) : N_O (N_tk v) t ∧ N_tk v 11 = v 11 + 1 ∧ N_tk v 23 = 0 ∧ (∀ j, (j < 11 ∨ j = 12 ∨ 23 < j ∧ j < 2310 ∨ 2372 ≤ j) → N_tk v j = v j) := by
  have h0 := h
  obtain ⟨u1, u2, u3, u4, u5⟩ := N_tu_R h hn
  obtain ⟨hR, ⟨o1, o2, o3, o4, o5, o6, o7⟩, hP⟩ := h
  have hC := hR.C
  have hkd := @N_kd_in v (v 11)
  unfold N_tk
  generalize hk : N_kd v (v 11) = kd at *
  generalize hu : N_tu v = u at *
  have hd : N_R (N_td u kd) := by
    unfold N_td
    refine u1.rs ?_
    rcases (show kd = 1 ∨ kd = 2 ∨ kd = 3 by omega) with rfl | rfl | rfl
    · exact trivial
    · exact trivial
    · have e : u 21 = v 21 := u2 21 (by omega)
      exact (show 0 ≤ u 21 + 1 ∧ u 21 + 1 ≤ 1000 by omega)
  have ed : ∀ j, (j < 19 ∨ 22 ≤ j) → N_td u kd j = u j := fun j hj => by unfold N_td; exact ja_rs_n (by omega)
  have e21 : 0 ≤ N_td u kd 21 ∧ N_td u kd 21 ≤ v 11 + 1 := by
    have e : u 21 = v 21 := u2 21 (by omega)
    unfold N_td
    by_cases h3 : kd = 3
    · subst h3
      rw [show (18 + 3 : Int).toNat = 21 from rfl, ja_rs_s]
      omega
    · rw [ja_rs_n (by omega)]
      omega
  have hkR := N_sk_R hd 31 (by omega)
  have hn11 : N_td u kd 11 = v 11 := (ed 11 (by omega)).trans (u2 11 (by omega))
  have eN : ∀ j, j ≠ 11 → (j < 2310 ∨ 2342 ≤ j) → N_te (N_td u kd) kd j = N_td u kd j := fun j a b => by
    unfold N_te
    rw [ja_rs_n a, ja_rs_n (by omega), N_sk_n 31 (by omega) (by omega)]
  have e11 : N_te (N_td u kd) kd 11 = v 11 + 1 := by
    unfold N_te
    rw [ja_rs_s, hn11]
  have hRe : N_R (N_te (N_td u kd) kd) := by
    unfold N_te
    exact (hkR.rs ((N_inD (by omega) (by omega)).mpr ⟨by omega, by omega⟩)).rs (show 0 ≤ N_td u kd 11 + 1 ∧ N_td u kd 11 + 1 ≤ 1000 by omega)
  have hall : ∀ j, (j < 11 ∨ j = 12 ∨ 23 < j ∧ j < 2310 ∨ 2372 ≤ j) → N_te (N_td u kd) kd j = v j := fun j hj => (eN j (by omega) (by omega)).trans ((ed j (by omega)).trans (u2 j (by omega)))
  have e23 : N_te (N_td u kd) kd 23 = 0 := (eN 23 (by omega) (by omega)).trans ((ed 23 (by omega)).trans u3)
  refine ⟨⟨hRe, ?_, ?_⟩, e11, e23, hall⟩
  · have hC2 := hRe.C
    rw [e23, e11, hall 9 (by omega), hall 10 (by omega), hall 12 (by omega), eN 13 (by omega) (by omega), ed 13 (by omega), eN 14 (by omega) (by omega), ed 14 (by omega), eN 21 (by omega) (by omega)]
    exact ⟨o1, o2, o3, by omega, by omega, by omega, by omega⟩
  · exact hP.c (fun j hj => hall j (by omega)) (hall 25 (by omega)) (fun j hj => hall j (by omega))
theorem N_t1_O {v : Nat → Int} {t : Int} (h : N_O v t) (ht : t ≤ 900000) : N_O (N_t1 v) t := by
  have h1 := (N_as_O h ht).1
  exact h1.kp (h1.1.rs (show (0 : Int) ≤ 0 ∧ (0 : Int) ≤ 3 by omega)) (N_k.rf.rs ⟨by omega, by omega, by omega, by omega, by omega, by omega⟩)
theorem N_t2_O {a : Nat → Int} {t : Int} (h : N_O a t) : N_O (N_t2 a) t ∧ ∀ j, j < 11 → N_t2 a j = a j := by
  unfold N_t2
  split
  · rename_i hc
    obtain ⟨k1, k2, k3, k4⟩ := N_tk_O h hc.2
    exact ⟨k1.kp (k1.1.rs (k1.1.D (j := 2310) (by omega) (by omega))) (N_k.rf.rs ⟨by omega, by omega, by omega, by omega, by omega, by omega⟩), fun j hj => by rw [ja_rs_n (by omega)]; exact k4 j (by omega)⟩
  · exact ⟨h, fun _ _ => rfl⟩
theorem N_ti_O {v : Nat → Int} {t : Int} (h : N_O v t) (ht : t ≤ 900000) : N_O (N_ti v) (t + 1) := by
  have h1 := N_t1_O h ht
  have key2 : ∀ b : Nat → Int, N_R b → (b 9 ≤ t ∧ b 10 ≤ t + 200 ∧ b 12 ≤ b 9 + 1 ∧ b 13 ≤ b 11 ∧ b 14 ≤ b 11 ∧ b 21 ≤ b 11 ∧ b 23 ≤ b 22) → N_P b → N_O (ja_rs b 9 (b 9 + 1)) (t + 1) := by
    intro b hR ho hP
    obtain ⟨o1, o2, o3, o4, o5, o6, o7⟩ := ho
    have hC := hR.C
    refine ⟨hR.rs (show 0 ≤ b 9 + 1 ∧ b 9 + 1 ≤ 900002 by omega), ?_, hP.c (fun j hj => ja_rs_n (by omega)) (ja_rs_n (by omega)) (fun j hj => ja_rs_n (by omega))⟩
    rw [ja_rs_s, ja_rs_n (show (10 : Nat) ≠ 9 by omega), ja_rs_n (show (11 : Nat) ≠ 9 by omega), ja_rs_n (show (12 : Nat) ≠ 9 by omega), ja_rs_n (show (13 : Nat) ≠ 9 by omega), ja_rs_n (show (14 : Nat) ≠ 9 by omega), ja_rs_n (show (21 : Nat) ≠ 9 by omega), ja_rs_n (show (22 : Nat) ≠ 9 by omega), ja_rs_n (show (23 : Nat) ≠ 9 by omega)]
    omega
  have key : ∀ b : Nat → Int, N_O b t → N_O (ja_rs (N_t3 b) 9 (N_t3 b 9 + 1)) (t + 1) := by
    intro b hb
    obtain ⟨hR, ⟨o1, o2, o3, o4, o5, o6, o7⟩, hP⟩ := hb
    have hC := hR.C
    unfold N_t3
    split
    · have hg := hR.G (j := (2342 + b 23).toNat) (by omega) (by omega)
      have hx := ((hR.rs (i := (2054 + b 12 % 256).toNat) ((N_inH (by omega) (by omega)).mpr hg)).rs (i := 12) (show 0 ≤ b 12 + 1 ∧ b 12 + 1 ≤ 900002 by omega)).rs (i := 23) (show 0 ≤ b 23 + 1 ∧ b 23 + 1 ≤ 24 by omega)
      have en : ∀ j, j ≠ 12 → j ≠ 23 → (j < 2054 ∨ 2310 ≤ j) → ja_rs (ja_rs (ja_rs b (2054 + b 12 % 256).toNat (b (2342 + b 23).toNat)) 12 (b 12 + 1)) 23 (b 23 + 1) j = b j := fun j a1 a2 a3 => by rw [ja_rs_n a2, ja_rs_n a1, ja_rs_n (by omega)]
      have e12 : ja_rs (ja_rs (ja_rs b (2054 + b 12 % 256).toNat (b (2342 + b 23).toNat)) 12 (b 12 + 1)) 23 (b 23 + 1) 12 = b 12 + 1 := by rw [ja_rs_n (by omega), ja_rs_s]
      have e23 : ja_rs (ja_rs (ja_rs b (2054 + b 12 % 256).toNat (b (2342 + b 23).toNat)) 12 (b 12 + 1)) 23 (b 23 + 1) 23 = b 23 + 1 := ja_rs_s _ _ _
      generalize ja_rs (ja_rs (ja_rs b (2054 + b 12 % 256).toNat (b (2342 + b 23).toNat)) 12 (b 12 + 1)) 23 (b 23 + 1) = w at *
      refine key2 w hx ?_ (hP.c (fun j hj => en j (by omega) (by omega) (by omega)) (en 25 (by omega) (by omega) (by omega)) (fun j hj => en j (by omega) (by omega) (by omega)))
      rw [e12, e23, en 9 (by omega) (by omega) (by omega), en 10 (by omega) (by omega) (by omega), en 11 (by omega) (by omega) (by omega), en 13 (by omega) (by omega) (by omega), en 14 (by omega) (by omega) (by omega), en 21 (by omega) (by omega) (by omega), en 22 (by omega) (by omega) (by omega)]
      omega
    · exact key2 b hR ⟨o1, o2, by omega, o4, o5, o6, o7⟩ hP
  unfold N_ti N_pl
  split
  · exact key _ (N_t2_O h1).1
  · obtain ⟨hR, ⟨o1, o2, o3, o4, o5, o6, o7⟩, hP⟩ := h1
    exact key2 _ hR ⟨o1, o2, by omega, o4, o5, o6, o7⟩ hP
