-- adding to arrivals
theorem A_all_app {mem : ja_M} {a o : Nat} (h0 : 0 ≤ mem a 4) (hao : a + 5 ≤ o ∨ o + 5 ≤ a) : ∀ k : Nat, mem a 4 + k ≤ 24 → A_all mem a o k a 4 = mem a 4 + k ∧ (∀ (c j : Nat), 1 ≤ c → c ≤ 4 → (j : Int) < mem a 4 → A_all mem a o k (a + c) j = mem (a + c) j) ∧ ∀ (c i : Nat), 1 ≤ c → c ≤ 4 → i < k → A_all mem a o k (a + c) (mem a 4 + i).toNat = mem (o + c) i
  | 0, _ => ⟨by simp [A_all], fun _ _ _ _ _ => rfl, fun _ _ _ _ h => by omega⟩
  | k + 1, hk => by
    obtain ⟨i1, i2, i3⟩ := A_all_app h0 hao k (by omega)
    have hlt : A_all mem a o k a 4 < 24 := by omega
    have hs : (A_all mem a o k a 4).toNat = (mem a 4 + k).toNat := by omega
    simp only [A_all]
    unfold A_add
    rw [if_pos hlt, hs]
    refine ⟨by rw [ja_up_s, i1]; omega, fun c j c1 c2 hj => ?_, fun c i c1 c2 hi => ?_⟩
    · rw [ja_up_x (by omega), ja_up_x (by omega), ja_up_x (by omega), ja_up_x (by omega), ja_up_x (by omega)]
      exact i2 c j c1 c2 hj
    · by_cases hik : i = k
      · subst hik
        rcases (show c = 1 ∨ c = 2 ∨ c = 3 ∨ c = 4 by omega) with rfl | rfl | rfl | rfl
        · rw [ja_up_a (by omega), ja_up_a (by omega), ja_up_a (by omega), ja_up_a (by omega), ja_up_s]
        · rw [ja_up_a (by omega), ja_up_a (by omega), ja_up_a (by omega), ja_up_s]
        · rw [ja_up_a (by omega), ja_up_a (by omega), ja_up_s]
        · rw [ja_up_a (by omega), ja_up_s]
      · rw [ja_up_x (by omega), ja_up_x (by omega), ja_up_x (by omega), ja_up_x (by omega), ja_up_x (by omega)]
        exact i3 c i c1 c2 (by omega)
theorem B_cas_all {m : ja_M} {y : Nat} : ∀ (r i : Nat), ¬ B_cas m y r i = 0 → ∀ j, i ≤ j → j < i + r → B_ca m y j
  | 0, i, _, j, h1, h2 => by omega
  | r + 1, i, h, j, h1, h2 => by
    simp only [B_cas] at h
    by_cases hc : B_ca m y i
    · rw [if_pos hc] at h
      by_cases hj : j = i
      · subst hj
        exact hc
      · exact B_cas_all r (i + 1) h j (by omega) (by omega)
    · rw [if_neg hc] at h
      exact absurd rfl h
theorem N_cas_all {v T : Nat → Int} : ∀ (r i : Nat), ¬ N_cas v T r i = 0 → ∀ j, i ≤ j → j < i + r → N_ia v T (j : Int)
  | 0, i, _, j, h1, h2 => by omega
  | r + 1, i, h, j, h1, h2 => by
    simp only [N_cas] at h
    by_cases hc : N_ia v T (i : Int)
    · rw [if_pos hc] at h
      by_cases hj : j = i
      · subst hj
        exact hc
      · exact N_cas_all r (i + 1) h j (by omega) (by omega)
    · rw [if_neg hc] at h
      exact absurd rfl h
theorem A_app_RO {M : ja_M} {y : Nat} {t : Int} (hM : ja_RO M (y + 1) t) (hA : ja_AO M (y + 44)) (hca : ¬ B_cas M y (M (y + 44) 4).toNat 0 = 0) (hle : M (y + 1 + 15) 4 + M (y + 44) 4 ≤ 24) : ja_RO (A_all M (y + 1 + 15) (y + 44) (M (y + 44) 4).toNat) (y + 1) t := by
  obtain ⟨g1, g2, g3, g4, g5, g6, g7, g8, g9, g10, g11, g12⟩ := hM
  have h4 := hA.1
  obtain ⟨e1, e2, e3⟩ := A_all_app (mem := M) (a := y + 1 + 15) (o := y + 44) g4.1.1 (by omega) (M (y + 44) 4).toNat (by omega)
  have ho : ∀ q, (q < y + 1 + 15 ∨ y + 1 + 15 + 5 ≤ q) → A_all M (y + 1 + 15) (y + 44) (M (y + 44) 4).toNat q = M q := fun q hq => A_all_o hq _
  have hAA := A_all_AO g4 hA (M (y + 44) 4).toNat
  generalize A_all M (y + 1 + 15) (y + 44) (M (y + 44) 4).toNat = W at *
  refine ⟨ja_SO_c (ho _ (by omega)) g1, ja_TO_c (ho _ (by omega)) (ho _ (by omega)) (ho _ (by omega)) g2, ja_PO_c (ho _ (by omega)) (ho _ (by omega)) (ho _ (by omega)) (ho _ (by omega)) g3, hAA, ?_, by rw [ho _ (by omega)]; exact g6, by rw [ho _ (by omega)]; exact g7, by rw [ho _ (by omega)]; exact g8, by rw [ho (y + 1 + 9) (by omega), ho (y + 1) (by omega)]; exact g9, by rw [ho (y + 1 + 14) (by omega), ho (y + 1 + 9) (by omega)]; exact g10, by rw [ho (y + 1 + 14) (by omega), ho (y + 1 + 9) (by omega)]; exact g11, by rw [ho (y + 1 + 14) (by omega), ho (y + 1 + 9) (by omega)]; exact g12⟩
  intro j hj
  rw [e1] at hj
  have e5 : ∀ r k i, ja_hasP W (y + 1 + 1) r k i = ja_hasP M (y + 1 + 1) r k i := fun r k i => by simp only [ja_hasP, ja_hasB, ja_cells, ho (y + 1 + 1) (by omega)]
  by_cases hjo : (j : Int) < M (y + 1 + 15) 4
  · rw [e2 1 j (by omega) (by omega) hjo, e2 2 j (by omega) (by omega) hjo, e2 3 j (by omega) (by omega) hjo, e5]
    exact g5 j hjo
  · have g0 := g4.1.1
    have hi : j = (M (y + 1 + 15) 4 + ((j - (M (y + 1 + 15) 4).toNat : Nat) : Int)).toNat := by omega
    have f1 := e3 1 (j - (M (y + 1 + 15) 4).toNat) (by omega) (by omega) (by omega)
    have f2 := e3 2 (j - (M (y + 1 + 15) 4).toNat) (by omega) (by omega) (by omega)
    have f3 := e3 3 (j - (M (y + 1 + 15) 4).toNat) (by omega) (by omega) (by omega)
    rw [← hi] at f1 f2 f3
    have hb := B_cas_all _ _ hca (j - (M (y + 1 + 15) 4).toNat) (by omega) (by omega)
    rw [f1, f2, f3, e5]
    obtain ⟨-, hb2⟩ := hb
    refine ⟨fun q => ?_, fun q => ?_⟩
    · rw [if_pos q] at hb2
      exact hb2.2
    · rw [if_neg q] at hb2
      exact hb2
theorem B_sc_RO {mem : ja_M} {y : Nat} {t : Int} (hR : ja_RO mem (y + 1) t) (hH : ja_HO mem (y + 42)) (hA : ja_AO mem (y + 44)) : ja_RO (B_sc mem y).2 (y + 1) t ∧ ja_HO (B_sc mem y).2 (y + 42) ∧ ja_AO (B_sc mem y).2 (y + 44) := by
  obtain ⟨r1, r2, r3⟩ := B_rd_all hH hA
  have hM : ja_RO (B_rd mem y).2 (y + 1) t := ja_RO_all (fun q a b => r3 q (by omega)) hR
  unfold B_sc
  split
  · split
    · exact ⟨hM, r2, r1⟩
    · rename_i hca
      split
      · exact ⟨hM, r2, r1⟩
      · rename_i hle
        dsimp only
        exact ⟨A_app_RO hM r1 hca (by omega), ja_HO_c (A_all_o (by omega) _) (A_all_o (by omega) _) r2, ja_AO_c (fun q a b => A_all_o (by omega) _) r1⟩
  · exact ⟨hM, r2, r1⟩
-- the reference's schedule
theorem T_in {T : Nat → Int} {tl : Int} (hT : ∀ i : Int, 0 ≤ i → i < tl → N_tr T i) (c : Nat) (hc : (c : Int) < 4 * tl) : 0 ≤ T c ∧ T c ≤ 9999 := by
  obtain ⟨⟨a0, a1⟩, ⟨b0, b1⟩, ⟨c0, c1⟩, d0, d1⟩ := hT ((c / 4 : Nat) : Int) (by omega) (by omega)
  rcases (show c % 4 = 0 ∨ c % 4 = 1 ∨ c % 4 = 2 ∨ c % 4 = 3 by omega) with h | h | h | h
  · rw [show (4 * ((c / 4 : Nat) : Int)).toNat = c by omega] at a0 a1
    omega
  · rw [show (4 * ((c / 4 : Nat) : Int) + 1).toNat = c by omega] at b0 b1
    omega
  · rw [show (4 * ((c / 4 : Nat) : Int) + 2).toNat = c by omega] at c0 c1
    omega
  · rw [show (4 * ((c / 4 : Nat) : Int) + 3).toNat = c by omega] at d0 d1
    omega
theorem N_cpp_R {v T : Nat → Int} {tl : Int} (hR : N_R v) (hT : ∀ i : Int, 0 ≤ i → i < tl → N_tr T i) (h24 : v 25 + tl ≤ 24) : ∀ c : Nat, (c : Int) ≤ 4 * tl → N_R (N_cpp v T c)
  | 0, _ => hR
  | c + 1, hc => by
    have h25 := hR.C
    have ht := T_in hT c (by omega)
    simp only [N_cpp]
    exact (N_cpp_R hR hT h24 c (by omega)).rs ((N_inP (by omega)).mpr ht)
theorem N_sd_O {v T : Nat → Int} {tl t : Int} (hO : N_O v t) (h0 : 0 ≤ tl) (h24 : v 25 + tl ≤ 24) (hT : ∀ i : Int, 0 ≤ i → i < tl → N_tr T i) (hia : ∀ i : Int, 0 ≤ i → i < tl → N_ia v T i) : N_O (N_sd v T tl) t := by
  obtain ⟨hR, h1, hP⟩ := hO
  have hC := hR.C
  have h25 : 0 ≤ v 25 := by omega
  have hn : ∀ q : Nat, q < 2388 → q ≠ 25 → N_sd v T tl q = v q := fun q a b => by
    unfold N_sd
    rw [ja_rs_n b]
    exact N_cpp_n h25 _ (by omega)
  refine ⟨(N_cpp_R hR hT h24 _ (by omega)).rs (show 0 ≤ v 25 + tl ∧ v 25 + tl ≤ 24 by omega), ?_, ?_⟩
  · rw [hn 9 (by omega) (by omega), hn 10 (by omega) (by omega), hn 11 (by omega) (by omega), hn 12 (by omega) (by omega), hn 13 (by omega) (by omega), hn 14 (by omega) (by omega), hn 21 (by omega) (by omega), hn 22 (by omega) (by omega), hn 23 (by omega) (by omega)]
    exact h1
  · intro j j0 jl
    have e25 : N_sd v T tl 25 = v 25 + tl := by
      unfold N_sd
      rw [ja_rs_s]
    rw [e25] at jl
    have eP : ∀ r k i, N_hP (N_sd v T tl) r k i = N_hP v r k i := fun r k i => by simp only [N_hP, N_hB, N_ar, hn 3 (by omega) (by omega), hn 4 (by omega) (by omega)]
    unfold N_pe
    rw [eP]
    by_cases hj : j < v 25
    · have hq : ∀ q : Int, 0 ≤ q → q < 4 → N_sd v T tl (2388 + 4 * j + q).toNat = v (2388 + 4 * j + q).toNat := fun q q0 q4 => by
        unfold N_sd
        rw [ja_rs_n (by omega)]
        exact N_cpp_n h25 _ (by omega)
      have e0 := hq 0 (by omega) (by omega)
      rw [show (2388 + 4 * j + 0 : Int) = 2388 + 4 * j by omega] at e0
      rw [e0, hq 1 (by omega) (by omega), hq 2 (by omega) (by omega)]
      exact hP j j0 hj
    · have hq : ∀ q : Nat, q < 4 → N_sd v T tl (2388 + 4 * j + q).toNat = T (4 * (j - v 25) + q).toNat := fun q q4 => by
        unfold N_sd
        rw [ja_rs_n (by omega)]
        have := N_cpp_s (v := v) (T := T) h25 (4 * tl).toNat (4 * (j - v 25) + q).toNat (by omega)
        rw [← this]
        congr 1
        omega
      have e0 := hq 0 (by omega)
      have e1 := hq 1 (by omega)
      have e2 := hq 2 (by omega)
      rw [show (2388 + 4 * j + ((0 : Nat) : Int)) = 2388 + 4 * j by omega, show (4 * (j - v 25) + ((0 : Nat) : Int)) = 4 * (j - v 25) by omega] at e0
      rw [show (2388 + 4 * j + ((1 : Nat) : Int)) = 2388 + 4 * j + 1 by omega, show (4 * (j - v 25) + ((1 : Nat) : Int)) = 4 * (j - v 25) + 1 by omega] at e1
      rw [show (2388 + 4 * j + ((2 : Nat) : Int)) = 2388 + 4 * j + 2 by omega, show (4 * (j - v 25) + ((2 : Nat) : Int)) = 4 * (j - v 25) + 2 by omega] at e2
      rw [e0, e1, e2]
      have ha := hia (j - v 25) (by omega) (by omega)
      have hb := (hT (j - v 25) (by omega) (by omega)).1
      obtain ⟨ha1, -⟩ := ha
      refine ⟨hb, fun q => ?_, fun q => ?_⟩
      · rw [if_pos q] at ha1
        exact ha1.2
      · rw [if_neg q] at ha1
        exact ha1
theorem N_sw_O {v : Nat → Int} {t : Int} {G : ja_M} {m : Nat} (hO : N_O v t) (hTO : N_TO G m) : N_O (N_sw v (N_rdt G m)) t := by
  obtain ⟨x1, x2, x3, x4⟩ := @N_tx_p (G (m + 5)) (G m 5) 25 0 0 (G (m + 8)) (by omega) (by omega) hTO.1.1 (by omega) (fun i i0 i1 => by omega)
  rw [show N_tx (G (m + 5)) (G m 5) 25 0 0 (G (m + 8)) = N_rdt G m from rfl] at x1 x2 x3 x4
  unfold N_sw
  split
  · exact hO
  · split
    · exact hO
    · rename_i h1 hca
      split
      · exact hO
      · obtain ⟨y1, y2⟩ := x4 (by omega)
        refine N_sd_O hO x3.1 (by omega) y2 (fun i i0 i1 => ?_)
        have := N_cas_all _ _ hca i.toNat (by omega) (by omega)
        rw [show ((i.toNat : Nat) : Int) = i by omega] at this
        exact this
theorem N_sw_n {v : Nat → Int} {E : N_E} {q : Nat} (h25 : 0 ≤ v 25) (hq : q < 2388) (hn : q ≠ 25) : N_sw v E q = v q := by
  unfold N_sw
  split
  · rfl
  · split
    · rfl
    · split
      · rfl
      · unfold N_sd
        rw [ja_rs_n hn]
        exact N_cpp_n h25 _ (by omega)
-- predictions keep the forecast's ranges
theorem B_gap_RO {b : Nat} {c : Int} : ∀ (r i : Nat) (m : ja_M) (t : Int), ja_RO m b t → t + r ≤ 900001 → ∃ t2, ja_RO (B_gap b c r i m).2 b t2
  | 0, _, m, t, h, _ => ⟨t, h⟩
  | r + 1, i, m, t, h, ht => by
    have h1 := R_tk_RO h (by omega)
    simp only [B_gap]
    split
    · exact ⟨_, h1⟩
    · exact B_gap_RO r (i + 1) _ _ h1 (by omega)
theorem B_fra_RO {b : Nat} {x : Int} : ∀ (r i : Nat) (m : ja_M) (t : Int), ja_RO m b t → t + r ≤ 900001 → ∃ t2, ja_RO (B_fra b x r i m).2 b t2
  | 0, _, m, t, h, _ => ⟨t, h⟩
  | r + 1, i, m, t, h, ht => by
    have h1 := R_tk_RO h (by omega)
    simp only [B_fra]
    split
    · exact ⟨_, h1⟩
    · exact B_fra_RO r (i + 1) _ _ h1 (by omega)
-- a tie holds while time passes
theorem S_adv {S : S_T} (hS : S_tk S) {mem : ja_M} {b : Nat} {v : Nat → Int} {t : Int} (hR : ja_RO mem b t) (hO : N_O v t) (h : S mem b v) : ∀ k : Nat, t + k ≤ 900001 → S (B_adv mem b k) b (N_ad v k)
  | 0, _ => h
  | k + 1, hk => hS _ b _ (t + k) (B_adv_RO hR k (by omega)) (N_ad_O hO k (by omega)) (by omega) (S_adv hS hR hO h k (by omega))
-- THE SMALL TIE: time, quantile, margin, adapting
def S0 : S_T := fun mem b v => mem b 6 = v 9 ∧ ∀ j, 6 ≤ j → j < 9 → mem (b + 1) j = v j
theorem R_tk_6 {mem : ja_M} {b : Nat} : R_tk mem b b 6 = mem b 6 + 1 := by
  have e : R_due mem b b = R_du mem b (mem (b + 15) 4).toNat b := by
    unfold R_due
    exact A_rem_o (by omega) _
  unfold R_tk
  rw [ja_up_s, R_pl_o (by omega), e, R_du_6]
theorem R_tk_1 {mem : ja_M} {b : Nat} : R_tk mem b (b + 1) = mem (b + 1) := by
  unfold R_tk
  rw [ja_up_row (by omega), R_pl_o (by omega)]
  unfold R_due
  rw [A_rem_o (by omega), R_du_o (by omega)]
theorem N_pl_n {a : Nat → Int} {t : Int} (h : N_O a t) {j : Nat} (hj : j < 11) : N_pl a j = a j := by
  obtain ⟨h2, h3⟩ := N_t2_O h
  have hC := h2.1.C
  unfold N_pl
  split
  · unfold N_t3
    split
    · rw [ja_rs_n (by omega), ja_rs_n (by omega), ja_rs_n (by omega)]
      exact h3 j hj
    · exact h3 j hj
  · rfl
theorem N_ti_n {v : Nat → Int} {t : Int} (h : N_O v t) (ht : t ≤ 900000) {j : Nat} (hj : j < 9) : N_ti v j = v j := by
  have h1 := N_t1_O h ht
  unfold N_ti
  rw [ja_rs_n (by omega), N_pl_n h1 (by omega)]
  unfold N_t1
  rw [ja_rs_n (by omega)]
  exact (N_as_O h ht).2 j (by omega) (by omega)
theorem N_ti_9 {v : Nat → Int} {t : Int} (h : N_O v t) (ht : t ≤ 900000) : N_ti v 9 = v 9 + 1 := by
  have h1 := N_t1_O h ht
  unfold N_ti
  rw [ja_rs_s, N_pl_n h1 (by omega)]
  unfold N_t1
  rw [ja_rs_n (by omega), (N_as_O h ht).2 9 (by omega) (by omega)]
theorem S0_ok : S_ok S0 := by
  refine ⟨?_, ?_, ?_, ?_, ?_, ?_, ?_, ?_, ?_, ?_⟩
  · intro mem mem' b v v' hm hv h
    refine ⟨by rw [hm b (by omega) (by omega), hv 9 (by omega)]; exact h.1, fun j h6 h9 => by rw [hm (b + 1) (by omega) (by omega), hv j (by omega)]; exact h.2 j h6 h9⟩
  · intro mem mem' b o v t hR he h
    obtain ⟨e1, -, -, -, -, -, -, -, -, -, -, e12, -⟩ := he
    exact ⟨e12.trans h.1, fun j h6 h9 => (e1 j h9).trans (h.2 j h6 h9)⟩
  · intro mem b v t P _ j z hj hR hO h
    refine ⟨?_, fun i h6 h9 => ?_⟩
    · split <;> split <;> (try rw [ja_up_a (by omega)]) <;> (try rw [ja_rs_n (by omega)]) <;> exact h.1
    · split <;> split <;> (try rw [ja_up_j (by omega)]) <;> (try rw [ja_rs_n (by omega)]) <;> exact h.2 i h6 h9
  · intro mem b v t P _ j i z w hj hi hR hO h
    refine ⟨?_, fun c h6 h9 => ?_⟩
    · split <;> split <;> (try rw [ja_up_a (by omega), ja_up_a (by omega)]) <;> (try rw [ja_rs_n (by omega), ja_rs_n (by omega)]) <;> exact h.1
    · split <;> split <;> (try rw [ja_up_j (by omega), ja_up_j (by omega)]) <;> (try rw [ja_rs_n (by omega), ja_rs_n (by omega)]) <;> exact h.2 c h6 h9
  · intro mem b v P _ j z h6 h9 h
    refine ⟨?_, fun c g6 g9 => ?_⟩
    · split
      · rw [ja_up_a (by omega), ja_rs_n (by omega)]
        exact h.1
      · exact h.1
    · split
      · by_cases hc : c = j
        · subst hc
          rw [ja_up_s, ja_rs_s]
        · rw [ja_up_j hc, ja_rs_n hc]
          exact h.2 c g6 g9
      · exact h.2 c g6 g9
  · intro mem b v t x hR hO ht hx h
    have hk := (N_av_O hO ht hx).2
    refine ⟨by rw [R_af_6, hk 9 (by omega) (by omega)]; exact h.1, fun j h6 h9 => by rw [R_af_o (by omega), hk j (by omega) (by omega)]; exact h.2 j h6 h9⟩
  · intro mem b v t r k i hR hO ht hr h
    refine ⟨?_, fun j h6 h9 => ?_⟩
    · split <;> split <;> (try rw [R_ap_6]) <;> first | exact h.1 | (rename_i hp; rw [(N_qv_O hO ht hp.1 (N_hP_6 hO.1.S hp)).2 9 (by omega) (by omega)]; exact h.1)
    · split <;> split <;> (try rw [R_ap_o (by omega)]) <;> first | exact h.2 j h6 h9 | (rename_i hp; rw [(N_qv_O hO ht hp.1 (N_hP_6 hO.1.S hp)).2 j (by omega) (by omega)]; exact h.2 j h6 h9)
  · intro mem b v t hR hO ht h
    exact ⟨by rw [R_tk_6, N_ti_9 hO ht, h.1], fun j h6 h9 => by rw [R_tk_1, N_ti_n hO ht h9]; exact h.2 j h6 h9⟩
  · intro mem G y m v t hR hH hA hO hT hx h
    have h25 := hO.1.C
    exact ⟨by rw [B_sc_f hH hA (by omega), N_sw_n (by omega) (by omega) (by omega)]; exact h.1, fun j h6 h9 => by rw [B_sc_f hH hA (by omega), N_sw_n (by omega) (by omega) (by omega)]; exact h.2 j h6 h9⟩
  · intro mem b h
    obtain ⟨-, -, -, -, -, -, s6, s7, s8⟩ := h.1
    refine ⟨(h.2 b 6 (by omega) (by omega) (by omega)).trans rfl, fun j h6 h9 => ?_⟩
    rcases (show j = 6 ∨ j = 7 ∨ j = 8 by omega) with rfl | rfl | rfl
    · exact s6
    · exact s7
    · exact s8
