-- TIES THAT LEAVE THE SCHEDULE OUT, AND THE SCHEDULE BESIDE THEM
/-- the schedule of both -/
def L_p (mem : ja_M) (b : Nat) (v : Nat → Int) : Prop := mem (b + 15) 4 = v 25 ∧ v 25 ≤ 24 ∧ X_te (b + 15) mem (fun j => v (2388 + j)) (v 25)
/-- settings, time, start -/
def S_b : S_T := fun mem b v => (∀ j, j < 9 → mem (b + 1) j = v j) ∧ mem b 6 = v 9 ∧ ((mem b 7 = 0 ∧ v 10 < 0) ∨ (mem b 7 = 1 ∧ 0 ≤ v 10 ∧ mem b 8 = v 10)) ∧ (mem b 7 = 0 → (∀ c j, 3 ≤ c → c ≤ 5 → j < 250 → mem (b + c) j = 0) ∧ ∀ j, 30 ≤ j → j < 2054 → v j = 0)
def Y_cg (A : S_T) : Prop := ∀ (mem mem' : ja_M) (b : Nat) (v v' : Nat → Int), (∀ q, b ≤ q → q < b + 15 → mem' q = mem q) → (∀ j, j < 2388 → j ≠ 25 → j ≠ 27 → v' j = v j) → A mem b v → A mem' b v'
def Y_s1 (A : S_T) : Prop := ∀ (mem : ja_M) (b : Nat) (v : Nat → Int) (j : Nat) (z : Int), j < 6 → mem b 7 = 0 → v 10 < 0 → A mem b v → A (ja_up mem (b + 1) j z) b (ja_rs v j z)
def Y_s3 (A : S_T) : Prop := ∀ (mem : ja_M) (b : Nat) (v : Nat → Int) (j : Nat) (z : Int), 6 ≤ j → j < 9 → A mem b v → A (ja_up mem (b + 1) j z) b (ja_rs v j z)
def Y_ap (A : S_T) : Prop := ∀ (mem : ja_M) (b : Nat) (v : Nat → Int) (t r k i : Int), ja_RO mem b t → N_O v t → t ≤ 900000 → (0 ≤ r ∧ r ≤ 1) → N_hP v r k i → A mem b v → A (R_ap mem b r k i) b (N_qv v r k i)
def Y_pl (A : S_T) : Prop := ∀ (mem : ja_M) (b : Nat) (v : Nat → Int) (t : Int), ja_RO mem b t → N_O v t → t ≤ 900000 → A mem b v → A (R_pl mem b) b (N_pl v)
def Y_tm (A : S_T) : Prop := ∀ (mem : ja_M) (b : Nat) (v : Nat → Int), A mem b v → A (ja_up mem b 6 (mem b 6 + 1)) b (ja_rs v 9 (v 9 + 1))
/-- what such a tie must bear -/
def Y_ok (A : S_T) : Prop := (∀ mem b v, A mem b v → S_b mem b v) ∧ Y_cg A ∧ S_cy A ∧ Y_s1 A ∧ Y_s3 A ∧ S_af A ∧ Y_ap A ∧ Y_pl A ∧ Y_tm A ∧ S_in A
/-- the tie with the schedule -/
def Y_S (A : S_T) : S_T := fun mem b v => A mem b v ∧ L_p mem b v
theorem L_p_cg {mem mem' : ja_M} {b : Nat} {v v' : Nat → Int} (hm : ∀ q, b + 15 ≤ q → q < b + 20 → mem' q = mem q) (hv : ∀ j, (j = 25 ∨ 2388 ≤ j) → j < 2484 → v' j = v j) (h : L_p mem b v) : L_p mem' b v' := by
  obtain ⟨h1, h2, h3⟩ := h
  have e25 := hv 25 (Or.inl rfl) (by omega)
  refine ⟨by rw [hm _ (by omega) (by omega), e25]; exact h1, by rw [e25]; exact h2, ?_⟩
  rw [e25]
  refine X_te_T (fun j hj => hv _ (by omega) (by omega)) (X_te_c (fun c j c1 c2 => by rw [hm _ (by omega) (by omega)]) h3)
theorem S_b_bg {mem : ja_M} {b : Nat} {v : Nat → Int} (h : S_b mem b v) (hL : L_p mem b v) : R_bg mem b ↔ N_bg v := by
  obtain ⟨-, -, hs, -⟩ := h
  have h1 := hL.1
  unfold R_bg N_bg
  omega
theorem N_pl_p {a : Nat → Int} {t : Int} (h : N_O a t) {j : Nat} (hj : j = 25 ∨ 2388 ≤ j) : N_pl a j = a j := by
  have e2 : N_t2 a j = a j := by
    unfold N_t2
    split
    · rename_i hc
      rw [ja_rs_n (by omega)]
      exact (N_tk_O h hc.2).2.2.2 j (by omega)
    · rfl
  have hC := (N_t2_O h).1.1.C
  unfold N_pl
  split
  · unfold N_t3
    split
    · rw [ja_rs_n (by omega), ja_rs_n (by omega), ja_rs_n (by omega)]
      exact e2
    · exact e2
  · rfl
/-- what is due arrives; the rest is kept -/
theorem Y_du {A : S_T} (h : Y_ok A) {mem D : ja_M} {b : Nat} {v : Nat → Int} {t : Int} (hR : ja_RO mem b t) (hO : N_O v t) (ht : t ≤ 900000) (hA : A mem b v) (hL : L_p mem b v) (hD : ∀ q, b + 15 ≤ q → D q = mem q) : ∀ i : Nat, (i : Int) ≤ v 25 → A (R_du mem b i) b (N_ab v i).2 ∧ (∀ j : Nat, i ≤ j → j < 24 → ∀ c : Nat, c < 4 → (N_ab v i).2 (2388 + (4 * j + c)) = v (2388 + (4 * j + c))) ∧ (N_ab v i).1 = A_rem D (b + 15) (mem b 6) i (b + 15) 4 ∧ X_te (b + 15) (A_rem D (b + 15) (mem b 6) i) (fun j => (N_ab v i).2 (2388 + j)) (N_ab v i).1
  | 0, _ => ⟨hA, fun _ _ _ _ _ => rfl, by simp only [A_rem, N_ab]; rw [ja_up_s], fun i hi => by simp only [N_ab] at hi; omega⟩
  | i + 1, hi => by
    obtain ⟨iA, iE, iS, iT⟩ := Y_du h hR hO ht hA hL hD i (by omega)
    obtain ⟨hOw, ⟨l0, l1⟩, hk⟩ := N_ab_O hO ht i (by omega)
    have hC := hO.1.C
    have hb := h.1 _ _ _ hA
    obtain ⟨g0, g1, g2, g3⟩ := hL.2.2 i (by omega)
    dsimp only at g0 g1 g2 g3
    have hpe := hOw.2.2 (i : Int) (by omega) (by rw [hk 25 (by omega) (by omega)]; omega)
    have hp1 := hOw.1.P (j := (2388 + 4 * (i : Int) + 1).toNat) (by omega) (by omega)
    have e9 : (N_ab v i).2 9 = mem b 6 := (hk 9 (by omega) (by omega)).trans hb.2.1.symm
    have e0 : (N_ab v i).2 (2388 + 4 * (i : Int)).toNat = mem (b + 15 + 1) i := by
      rw [show (2388 + 4 * (i : Int)).toNat = 2388 + (4 * i + 0) by omega, iE i (Nat.le_refl _) (by omega) 0 (by omega)]
      exact g0.symm
    have e1 : (N_ab v i).2 (2388 + 4 * (i : Int) + 1).toNat = mem (b + 15 + 2) i := by
      rw [show (2388 + 4 * (i : Int) + 1).toNat = 2388 + (4 * i + 1) by omega, iE i (Nat.le_refl _) (by omega) 1 (by omega), g1]
    have e2 : ¬ mem (b + 15 + 1) i = 0 → (N_ab v i).2 (2388 + 4 * (i : Int) + 2).toNat = mem (b + 15 + 3) i := fun q => by
      rw [show (2388 + 4 * (i : Int) + 2).toNat = 2388 + (4 * i + 2) by omega, iE i (Nat.le_refl _) (by omega) 2 (by omega), g2 (by rw [← g0]; exact q)]
    have e3 : (N_ab v i).2 (2388 + 4 * (i : Int) + 3).toNat = mem (b + 15 + 4) i := by
      rw [show (2388 + 4 * (i : Int) + 3).toNat = 2388 + (4 * i + 3) by omega, iE i (Nat.le_refl _) (by omega) 3 (by omega), g3]
    have hRi := R_du_RO hR ht i (by have := hL.1; omega)
    obtain ⟨-, cg, -, -, -, af, ap, -⟩ := id h
    simp only [N_ab, R_du, A_rem]
    generalize (N_ab v i).2 = w at *
    generalize (N_ab v i).1 = l at *
    rw [e3, e9, e0, e1, hD (b + 15 + 4) (by omega)]
    by_cases hd : mem (b + 15 + 4) i = mem b 6
    · rw [if_pos hd, if_pos hd, if_pos hd]
      dsimp only
      by_cases hz : mem (b + 15 + 1) i = 0
      · rw [if_pos hz, if_pos hz]
        have hx : 0 ≤ mem (b + 15 + 2) i ∧ mem (b + 15 + 2) i ≤ 999 := by
          have h5 := hpe.2.1 (e0.trans hz)
          rw [e1] at h5 hp1
          exact ⟨hp1.1, h5⟩
        have hkb := (N_av_O hOw ht hx).2
        exact ⟨af _ b w t _ hRi hOw ht hx iA, fun j hj h24 c hc => (hkb _ (by omega) (by omega)).trans (iE j (by omega) h24 c hc), iS, X_te_T (fun j hj => hkb _ (by omega) (by omega)) iT⟩
      · rw [if_neg hz, if_neg hz, e2 hz]
        have hP := hpe.2.2 (by rw [e0]; exact hz)
        rw [e0, e1, e2 hz] at hP
        have hkb := (N_qv_O (r := if mem (b + 15 + 1) i = 1 then 1 else 0) hOw ht hP.1 (N_hP_6 hOw.1.S hP)).2
        exact ⟨ap _ b w t _ _ _ hRi hOw ht ja_b_r hP iA, fun j hj h24 c hc => (hkb _ (by omega) (by omega)).trans (iE j (by omega) h24 c hc), iS, X_te_T (fun j hj => hkb _ (by omega) (by omega)) iT⟩
    · rw [if_neg hd, if_neg hd, if_neg hd]
      dsimp only
      have hlt : A_rem D (b + 15) (mem b 6) i (b + 15) 4 < 24 := by omega
      have hnn : ∀ q : Nat, ((q : Int) < 2388 + 4 * l ∨ (2388 + 4 * l + 4 : Int) ≤ (q : Int)) → N_c4 w (2388 + 4 * l) (2388 + 4 * (i : Int)) 4 q = w q := fun q hq => N_c4_n 4 (fun c hc => by omega)
      have hcs : ∀ c : Nat, c < 4 → N_c4 w (2388 + 4 * l) (2388 + 4 * (i : Int)) 4 (2388 + 4 * l + c).toNat = w (2388 + 4 * (i : Int) + c).toNat := N_c4_s (by omega) (by omega) 4 (by omega)
      refine ⟨cg _ _ b w _ (fun _ _ _ => rfl) (fun j hj _ _ => hnn j (by omega)) iA, fun j hj h24 c hc => (hnn _ (by omega)).trans (iE j (by omega) h24 c hc), ?_, ?_⟩
      · unfold A_add
        rw [if_pos hlt, ja_up_s, ← iS]
      · intro j hj
        unfold A_add
        rw [if_pos hlt]
        have hs : (A_rem D (b + 15) (mem b 6) i (b + 15) 4).toNat = l.toNat := by omega
        rw [hs, hD (b + 15 + 1) (by omega), hD (b + 15 + 2) (by omega), hD (b + 15 + 3) (by omega)]
        dsimp only
        by_cases hjl : (j : Int) = l
        · have hjn : l.toNat = j := by omega
          rw [hjn]
          have c0 := hcs 0 (by omega)
          have c1 := hcs 1 (by omega)
          have c2 := hcs 2 (by omega)
          have c3 := hcs 3 (by omega)
          rw [show (2388 + 4 * l + ((0 : Nat) : Int)).toNat = 2388 + 4 * j by omega, show (2388 + 4 * (i : Int) + ((0 : Nat) : Int)).toNat = (2388 + 4 * (i : Int)).toNat by omega, e0] at c0
          rw [show (2388 + 4 * l + ((1 : Nat) : Int)).toNat = 2388 + (4 * j + 1) by omega, show (2388 + 4 * (i : Int) + ((1 : Nat) : Int)).toNat = (2388 + 4 * (i : Int) + 1).toNat by omega, e1] at c1
          rw [show (2388 + 4 * l + ((2 : Nat) : Int)).toNat = 2388 + (4 * j + 2) by omega, show (2388 + 4 * (i : Int) + ((2 : Nat) : Int)).toNat = (2388 + 4 * (i : Int) + 2).toNat by omega] at c2
          rw [show (2388 + 4 * l + ((3 : Nat) : Int)).toNat = 2388 + (4 * j + 3) by omega, show (2388 + 4 * (i : Int) + ((3 : Nat) : Int)).toNat = (2388 + 4 * (i : Int) + 3).toNat by omega, e3] at c3
          rw [c0, c1, c2, c3]
          refine ⟨?_, ?_, fun q => ?_, ?_⟩
          · rw [ja_up_a (by omega), ja_up_a (by omega), ja_up_a (by omega), ja_up_a (by omega), ja_up_s]
          · rw [ja_up_a (by omega), ja_up_a (by omega), ja_up_a (by omega), ja_up_s]
          · rw [ja_up_a (by omega), ja_up_a (by omega), ja_up_s, e2 q]
          · rw [ja_up_a (by omega), ja_up_s]
        · obtain ⟨t0, t1, t2, t3⟩ := iT j (by omega)
          dsimp only at t0 t1 t2 t3
          rw [hnn (2388 + 4 * j) (by omega), hnn (2388 + (4 * j + 1)) (by omega), hnn (2388 + (4 * j + 2)) (by omega), hnn (2388 + (4 * j + 3)) (by omega)]
          have hne : j ≠ l.toNat := by omega
          refine ⟨?_, ?_, fun q => ?_, ?_⟩
          · rw [ja_up_a (by omega), ja_up_a (by omega), ja_up_a (by omega), ja_up_a (by omega), ja_up_j hne]
            exact t0
          · rw [ja_up_a (by omega), ja_up_a (by omega), ja_up_a (by omega), ja_up_j hne, ja_up_a (by omega)]
            exact t1
          · rw [ja_up_a (by omega), ja_up_a (by omega), ja_up_j hne, ja_up_a (by omega), ja_up_a (by omega)]
            exact t2 q
          · rw [ja_up_a (by omega), ja_up_j hne, ja_up_a (by omega), ja_up_a (by omega), ja_up_a (by omega)]
            exact t3
/-- a tick, up to the player -/
theorem Y_due {A : S_T} (h : Y_ok A) {mem : ja_M} {b : Nat} {v : Nat → Int} {t : Int} (hR : ja_RO mem b t) (hO : N_O v t) (ht : t ≤ 900000) (hA : A mem b v) (hL : L_p mem b v) : A (R_due mem b) b (N_t1 v) ∧ L_p (R_due mem b) b (N_t1 v) := by
  have hC := hO.1.C
  obtain ⟨-, cg, -⟩ := id h
  have hsz : (mem (b + 15) 4).toNat = (v 25).toNat := by rw [hL.1]
  obtain ⟨dA, -, dS, dT⟩ := Y_du (D := R_du mem b (v 25).toNat) h hR hO ht hA hL (fun q hq => R_du_o (Or.inl hq) _) (v 25).toNat (by omega)
  obtain ⟨hOw, ⟨l0, l1⟩, hk⟩ := N_ab_O hO ht (v 25).toNat (by omega)
  unfold R_due N_t1 N_as
  rw [hsz]
  refine ⟨cg _ _ b _ _ (fun q q1 q2 => A_rem_o (by omega) _) (fun j _ j25 j27 => by rw [ja_rs_n j27, ja_rs_n j25]) dA, ?_⟩
  have e25 : ja_rs (ja_rs (N_ab v (v 25).toNat).2 25 (N_ab v (v 25).toNat).1) 27 0 25 = (N_ab v (v 25).toNat).1 := by rw [ja_rs_n (by omega), ja_rs_s]
  refine ⟨by rw [e25]; exact dS.symm, by rw [e25]; omega, ?_⟩
  rw [e25]
  exact X_te_T (fun j _ => by rw [ja_rs_n (by omega), ja_rs_n (by omega)]) dT
theorem Y_tk {A : S_T} (h : Y_ok A) : S_tk (Y_S A) := by
  intro mem b v t hR hO ht hS
  obtain ⟨hA, hL⟩ := hS
  obtain ⟨dA, dL⟩ := Y_due h hR hO ht hA hL
  obtain ⟨-, -, -, -, -, -, -, pl, tm, -⟩ := id h
  have hOt := N_t1_O hO ht
  refine ⟨tm _ b _ (pl _ b _ t (R_due_RO hR ht) hOt ht dA), L_p_cg (mem := R_due mem b) (v := N_t1 v) (fun q q1 q2 => ?_) (fun j hj _ => ?_) dL⟩
  · unfold R_tk
    rw [ja_up_row (by omega), R_pl_o (by omega)]
  · unfold N_ti
    rw [ja_rs_n (by omega), N_pl_p hOt hj]
/-- arrival i of a text exists for both or for none -/
theorem B_ca_N {M : ja_M} {y : Nat} {v T : Nat → Int} {tl : Int} (hs : ∀ j, j < 9 → M (y + 1 + 1) j = v j) (h6 : M (y + 1) 6 = v 9) (hT : X_te (y + 44) M T tl) (i : Nat) (hi : (i : Int) < tl) : B_ca M y i ↔ N_ia v T (i : Int) := by
  obtain ⟨t0, t1, t2, t3⟩ := hT i hi
  have n0 : (4 * (i : Int)).toNat = 4 * i := by omega
  have n1 : (4 * (i : Int) + 1).toNat = 4 * i + 1 := by omega
  have n2 : (4 * (i : Int) + 2).toNat = 4 * i + 2 := by omega
  have n3 : (4 * (i : Int) + 3).toNat = 4 * i + 3 := by omega
  unfold B_ca N_ia
  rw [n0, n1, n2, n3, h6, t0, t1, t3]
  by_cases hz : T (4 * i) = 0
  · rw [if_pos hz, if_pos hz]
    exact And.comm
  · rw [if_neg hz, if_neg hz, t2 hz]
    exact And.comm.trans (and_congr_left fun _ => ja_hasP_N hs _ _ _)
theorem B_cas_N {M : ja_M} {y : Nat} {v T : Nat → Int} {tl : Int} (hs : ∀ j, j < 9 → M (y + 1 + 1) j = v j) (h6 : M (y + 1) 6 = v 9) (hT : X_te (y + 44) M T tl) : ∀ r i : Nat, ((i + r : Nat) : Int) ≤ tl → B_cas M y r i = N_cas v T r i
  | 0, _, _ => rfl
  | r + 1, i, h => by
    have hc := B_ca_N hs h6 hT i (by omega)
    simp only [B_cas, N_cas]
    by_cases hz : N_ia v T (i : Int)
    · rw [if_pos hz, if_pos (hc.mpr hz)]
      exact B_cas_N hs h6 hT r (i + 1) (by omega)
    · rw [if_neg hz, if_neg (fun q => hz (hc.mp q))]
/-- what the text says, for both -/
theorem B_sc_N {mem G : ja_M} {y m : Nat} {v : Nat → Int} {t : Int} (hO : N_O v t) (hH : ja_HO mem (y + 42)) (hA : ja_AO mem (y + 44)) (hT : N_TO G m) (hx : L_x mem y G m) (hb : S_b mem (y + 1) v) (hL : L_p mem (y + 1) v) : (B_sc mem y).1 = N_sr v (N_rdt G m) ∧ L_p (B_sc mem y).2 (y + 1) (N_sw v (N_rdt G m)) ∧ (∀ q, q < y + 16 → (B_sc mem y).2 q = mem q) ∧ ∀ j, j < 2388 → j ≠ 25 → N_sw v (N_rdt G m) j = v j := by
  have hC := hO.1.C
  obtain ⟨p0, p1⟩ := B_txt (G := G) (g := m) hH hx
  obtain ⟨r1, r2, r3⟩ := B_rd_all hH hA
  obtain ⟨x1, x2, x3, x4⟩ := @N_tx_p (G (m + 5)) (G m 5) 25 0 0 (G (m + 8)) (by omega) (by omega) hT.1.1 (by omega) (fun i i0 i1 => by omega)
  rw [show N_tx (G (m + 5)) (G m 5) 25 0 0 (G (m + 8)) = N_rdt G m from rfl] at x1 x2 x3 x4
  have hn : ∀ j, j < 2388 → j ≠ 25 → N_sw v (N_rdt G m) j = v j := fun j h1 h2 => N_sw_n (by omega) h1 h2
  have hq : ∀ q, q < y + 42 → (B_rd mem y).2 q = mem q := fun q h1 => r3 q (by omega)
  have hL1 : L_p (B_rd mem y).2 (y + 1) v := L_p_cg (fun q q1 q2 => hq q (by omega)) (fun _ _ _ => rfl) hL
  generalize N_rdt G m = E at *
  unfold B_sc N_sr N_sw at *
  rcases x1 with e0 | e1
  · have hne : ¬ (B_rd mem y).1 = -1004 := by
      rw [p0 e0]
      omega
    rw [if_neg hne, if_pos e0, if_pos e0]
    exact ⟨rfl, hL1, fun q h1 => hq q (by omega), fun _ _ _ => rfl⟩
  · obtain ⟨q1, q2, q3, q4⟩ := p1 e1
    obtain ⟨y1, y2⟩ := x4 e1
    rw [if_pos q1, if_neg (by omega : ¬ E.1 = 0), if_neg (by omega : ¬ E.1 = 0)]
    rw [if_neg (by omega : ¬ E.1 = 0)] at hn
    have hcas : B_cas (B_rd mem y).2 y ((B_rd mem y).2 (y + 44) 4).toNat 0 = N_cas v E.2.2.2 E.2.2.1.toNat 0 := by
      rw [q3]
      refine B_cas_N (fun j hj => ?_) ?_ q4 _ 0 (by omega)
      · rw [hq _ (by omega)]
        exact hb.1 j hj
      · rw [hq _ (by omega)]
        exact hb.2.1
    rw [hcas, hL1.1, q3]
    by_cases hc : N_cas v E.2.2.2 E.2.2.1.toNat 0 = 0
    · rw [if_pos hc, if_pos hc, if_pos hc]
      exact ⟨rfl, hL1, fun q h1 => hq q (by omega), fun _ _ _ => rfl⟩
    · rw [if_neg hc, if_neg hc, if_neg hc]
      rw [if_neg hc] at hn
      by_cases h24 : 24 < v 25 + E.2.2.1
      · rw [if_pos h24, if_pos h24, if_pos h24]
        exact ⟨rfl, hL1, fun q h1 => hq q (by omega), fun _ _ _ => rfl⟩
      · rw [if_neg h24, if_neg h24, if_neg h24]
        rw [if_neg h24] at hn
        dsimp only
        have hs1 := hL1.1
        obtain ⟨a1, a2, a3⟩ := A_all_app (mem := (B_rd mem y).2) (a := y + 1 + 15) (o := y + 44) (by omega) (by omega) E.2.2.1.toNat (by omega)
        have e25 : N_sd v E.2.2.2 E.2.2.1 25 = v 25 + E.2.2.1 := by
          unfold N_sd
          rw [ja_rs_s]
        refine ⟨rfl, ⟨?_, ?_, ?_⟩, fun q h1 => by rw [A_all_o (by omega)]; exact hq q (by omega), hn⟩
        · rw [a1, e25]
          omega
        · rw [e25]
          omega
        · rw [e25]
          intro i hi
          dsimp only
          by_cases hio : (i : Int) < v 25
          · have hk : ∀ c : Nat, c < 4 → N_sd v E.2.2.2 E.2.2.1 (2388 + (4 * i + c)) = v (2388 + (4 * i + c)) := fun c hc4 => by
              unfold N_sd
              rw [ja_rs_n (by omega)]
              exact N_cpp_n (by omega) _ (by omega)
            obtain ⟨t0, t1, t2, t3⟩ := hL1.2.2 i hio
            dsimp only at t0 t1 t2 t3
            have k0 := hk 0 (by omega)
            have k1 := hk 1 (by omega)
            have k2 := hk 2 (by omega)
            have k3 := hk 3 (by omega)
            rw [Nat.add_zero] at k0
            rw [a2 1 i (by omega) (by omega) (by omega), a2 2 i (by omega) (by omega) (by omega), a2 3 i (by omega) (by omega) (by omega), a2 4 i (by omega) (by omega) (by omega), k0, k1, k2, k3]
            exact ⟨t0, t1, t2, t3⟩
          · have hn1 : ((i - (v 25).toNat : Nat) : Int) < E.2.2.1 := by omega
            have hk : ∀ c : Nat, c < 4 → N_sd v E.2.2.2 E.2.2.1 (2388 + (4 * i + c)) = E.2.2.2 (4 * (i - (v 25).toNat) + c) := fun c hc4 => by
              unfold N_sd
              rw [ja_rs_n (by omega)]
              have := N_cpp_s (v := v) (T := E.2.2.2) (by omega) (4 * E.2.2.1).toNat (4 * (i - (v 25).toNat) + c) (by omega)
              rw [← this]
              congr 1
              omega
            obtain ⟨t0, t1, t2, t3⟩ := q4 (i - (v 25).toNat) hn1
            have k0 := hk 0 (by omega)
            have k1 := hk 1 (by omega)
            have k2 := hk 2 (by omega)
            have k3 := hk 3 (by omega)
            rw [Nat.add_zero, Nat.add_zero] at k0
            have hi2 : ((B_rd mem y).2 (y + 1 + 15) 4 + ((i - (v 25).toNat : Nat) : Int)).toNat = i := by omega
            have f1 := a3 1 (i - (v 25).toNat) (by omega) (by omega) (by omega)
            have f2 := a3 2 (i - (v 25).toNat) (by omega) (by omega) (by omega)
            have f3 := a3 3 (i - (v 25).toNat) (by omega) (by omega) (by omega)
            have f4 := a3 4 (i - (v 25).toNat) (by omega) (by omega) (by omega)
            rw [hi2] at f1 f2 f3 f4
            rw [f1, f2, f3, f4, k0, k1, k2, k3]
            exact ⟨t0, t1, t2, t3⟩
theorem Y_all {A : S_T} (h : Y_ok A) : S_ok (Y_S A) := by
  obtain ⟨hb, cg, cy, s1, s3, af, ap, pl, tm, ini⟩ := id h
  have set : ∀ (mem : ja_M) (b : Nat) (v : Nat → Int) (j : Nat) (z : Int), j < 6 → ¬ R_bg mem b → Y_S A mem b v → Y_S A (ja_up mem (b + 1) j z) b (ja_rs v j z) := fun mem b v j z hj hn hS => by
    have hB := hb _ _ _ hS.1
    have hbg := S_b_bg hB hS.2
    obtain ⟨-, -, hs, -⟩ := hB
    unfold R_bg at hn
    exact ⟨s1 mem b v j z hj (by omega) (by omega) hS.1, L_p_cg (fun q q1 q2 => ja_up_row (by omega)) (fun i hi _ => ja_rs_n (by omega)) hS.2⟩
  refine ⟨?_, ?_, ?_, ?_, ?_, ?_, ?_, Y_tk h, ?_, ?_⟩
  · intro mem mem' b v v' hm hv hS
    exact ⟨cg mem mem' b v v' (fun q q1 q2 => hm q q1 (by omega)) (fun j h1 _ _ => hv j (by omega)) hS.1, L_p_cg (fun q q1 q2 => hm q (by omega) q2) (fun j _ h2 => hv j h2) hS.2⟩
  · intro mem mem' b o v t hR he hS
    refine ⟨cy mem mem' b o v t hR he hS.1, ?_⟩
    obtain ⟨-, -, -, -, -, -, -, -, -, e10, e11, -⟩ := he
    obtain ⟨l1, l2, l3⟩ := hS.2
    refine ⟨e10.trans l1, l2, fun i hi => ?_⟩
    rw [show b + 15 + 1 = b + 16 from rfl, show b + 15 + 2 = b + 17 from rfl, show b + 15 + 3 = b + 18 from rfl, show b + 15 + 4 = b + 19 from rfl, e11 16 i (by omega) (by omega) (by omega), e11 17 i (by omega) (by omega) (by omega), e11 18 i (by omega) (by omega) (by omega), e11 19 i (by omega) (by omega) (by omega)]
    exact l3 i hi
  · intro mem b v t P _ j z hj hR hO hS
    have hbg := S_b_bg (hb _ _ _ hS.1) hS.2
    by_cases hP : P ∧ ¬ R_bg mem b
    · rw [if_pos hP, if_pos ⟨hP.1, fun q => hP.2 (hbg.mpr q)⟩]
      exact set mem b v j z hj hP.2 hS
    · rw [if_neg hP, if_neg (fun q => hP ⟨q.1, fun q2 => q.2 (hbg.mp q2)⟩)]
      exact hS
  · intro mem b v t P _ j i z w hj hi hR hO hS
    have hbg := S_b_bg (hb _ _ _ hS.1) hS.2
    by_cases hP : P ∧ ¬ R_bg mem b
    · rw [if_pos hP, if_pos ⟨hP.1, fun q => hP.2 (hbg.mpr q)⟩]
      refine set _ b _ i w hi ?_ (set mem b v j z hj hP.2 hS)
      unfold R_bg
      rw [ja_up_a (by omega), ja_up_a (by omega)]
      exact hP.2
    · rw [if_neg hP, if_neg (fun q => hP ⟨q.1, fun q2 => q.2 (hbg.mp q2)⟩)]
      exact hS
  · intro mem b v P _ j z h6 h9 hS
    by_cases hP : P
    · rw [if_pos hP, if_pos hP]
      exact ⟨s3 mem b v j z h6 h9 hS.1, L_p_cg (fun q q1 q2 => ja_up_row (by omega)) (fun i hi _ => ja_rs_n (by omega)) hS.2⟩
    · rw [if_neg hP, if_neg hP]
      exact hS
  · intro mem b v t x hR hO ht hx hS
    have hkb := (N_av_O hO ht hx).2
    exact ⟨af mem b v t x hR hO ht hx hS.1, L_p_cg (fun q q1 q2 => R_af_o (Or.inl q1)) (fun j hj _ => hkb j (by omega) (by omega)) hS.2⟩
  · intro mem b v t r k i hR hO ht hr hS
    have hset := (hb _ _ _ hS.1).1
    by_cases hP : N_hP v r k i
    · rw [if_pos hP, if_pos ((ja_hasP_N hset r k i).mpr hP)]
      have hkb := (N_qv_O (r := r) hO ht hP.1 (N_hP_6 hO.1.S hP)).2
      exact ⟨ap mem b v t r k i hR hO ht hr hP hS.1, L_p_cg (fun q q1 q2 => R_ap_o (Or.inl q1)) (fun j hj _ => hkb j (by omega) (by omega)) hS.2⟩
    · rw [if_neg hP, if_neg (fun q => hP ((ja_hasP_N hset r k i).mp q))]
      exact hS
  · intro mem G y m v t hR hH hA hO hT hx hS
    obtain ⟨-, b2, b3, b4⟩ := B_sc_N hO hH hA hT hx (hb _ _ _ hS.1) hS.2
    exact ⟨cg mem _ (y + 1) v _ (fun q q1 q2 => b3 q (by omega)) (fun j h1 h2 _ => b4 j h1 h2) hS.1, b2⟩
  · intro mem b hZ
    refine ⟨ini mem b hZ, ?_, ?_, fun i hi => ?_⟩
    · rw [hZ.2 (b + 15) 4 (by omega) (by omega) (by omega)]
      exact (N_v0_z (by omega) (by omega)).symm
    · rw [N_v0_z (by omega) (by omega)]
      omega
    · rw [N_v0_z (by omega) (by omega)] at hi
      omega
