theorem ja_wave_sp {mem : ja_M} {s : Nat} {x j : Int} : ja_sp (ja_wave mem s x j) := by
  unfold ja_wave
  generalize mem s 2 * ((x * mem s 0 + j) % mem s 1) = z
  exact ⟨by omega, by omega⟩
theorem P_ldr_in {mem : ja_M} {s : Nat} {x : Int} {f : Nat → Int} (hf : ∀ j, ja_sp (f j)) : ∀ k j, ja_sp (P_ldr mem s x f k j)
  | 0, j => hf j
  | k + 1, j => by
    simp only [P_ldr, ja_rs]
    split
    · exact ja_wave_sp
    · exact P_ldr_in hf k j
/-- samples were put: only the player's length, its frame, its source and counters of stretched and compressed may be new -/
def ja_Q (M M' : ja_M) (b : Nat) : Prop := (∀ q, q ≠ b + 9 → q ≠ b + 9 + 1 → q ≠ b + 9 + 4 → q ≠ b + 14 → M' q = M q) ∧ (∀ j, j ≠ 1 → M' (b + 9) j = M (b + 9) j) ∧ (0 ≤ M' (b + 9) 1 ∧ M' (b + 9) 1 ≤ 24) ∧ (∀ j, ja_sp (M' (b + 9 + 1) j)) ∧ (∀ j, ja_sp (M' (b + 9 + 4) j)) ∧ ∀ j, (j = 7 ∨ j = 8 ∨ j = 2) → M' (b + 14) j = M (b + 14) j
theorem Q_refl {M : ja_M} {b : Nat} (h1 : 0 ≤ M (b + 9) 1 ∧ M (b + 9) 1 ≤ 24) (hf : ∀ j, ja_sp (M (b + 9 + 1) j)) (hs : ∀ j, ja_sp (M (b + 9 + 4) j)) : ja_Q M M b := ⟨fun _ _ _ _ _ => rfl, fun _ _ => rfl, h1, hf, hs, fun _ _ => rfl⟩
theorem Q_pts {M M' : ja_M} {b : Nat} {h : Nat → Int} {k : Nat} (hQ : ja_Q M M' b) (hh : ∀ j, j < k → ja_sp (h j)) : ja_Q M (P_pts M' (b + 9) h k) b := by
  obtain ⟨q1, q2, q3, q4, q5, q6⟩ := hQ
  refine ⟨fun q a1 a2 a3 a4 => by rw [P_pts_o ⟨a1, a2⟩]; exact q1 q a1 a2 a3 a4, fun j hj => by rw [P_pts_j hj]; exact q2 j hj, P_pts_r q3 k, P_pts_f k hh q4, fun j => by rw [P_pts_o ⟨by omega, by omega⟩]; exact q5 j, fun j hj => by rw [P_pts_o ⟨by omega, by omega⟩]; exact q6 j hj⟩
theorem Q_rw {M M' : ja_M} {b : Nat} {g : Nat → Int} (hQ : ja_Q M M' b) (hg : ∀ j, ja_sp (g j)) : ja_Q M (ja_rw M' (b + 9 + 4) g) b := by
  obtain ⟨q1, q2, q3, q4, q5, q6⟩ := hQ
  refine ⟨fun q a1 a2 a3 a4 => by rw [ja_rw_n a3]; exact q1 q a1 a2 a3 a4, fun j hj => by rw [ja_rw_n (by omega)]; exact q2 j hj, by rw [ja_rw_n (by omega)]; exact q3, fun j => by rw [ja_rw_n (by omega)]; exact q4 j, fun j => by rw [ja_rw_s]; exact hg j, fun j hj => by rw [ja_rw_n (by omega)]; exact q6 j hj⟩
theorem Q_ct {M M' : ja_M} {b c : Nat} {z : Int} (hQ : ja_Q M M' b) (hc : c = 3 ∨ c = 4) : ja_Q M (ja_up M' (b + 14) c z) b := by
  obtain ⟨q1, q2, q3, q4, q5, q6⟩ := hQ
  refine ⟨fun q a1 a2 a3 a4 => by rw [ja_up_row a4]; exact q1 q a1 a2 a3 a4, fun j hj => by rw [ja_up_a (by omega)]; exact q2 j hj, by rw [ja_up_a (by omega)]; exact q3, fun j => by rw [ja_up_a (by omega)]; exact q4 j, fun j => by rw [ja_up_a (by omega)]; exact q5 j, fun j hj => by rw [ja_up_j (by omega)]; exact q6 j hj⟩
theorem P_cpr_Q {M M' : ja_M} {b : Nat} {n : Int} (hQ : ja_Q M M' b) (hn : 4 ≤ n ∧ n ≤ 16) : ja_Q M (P_cpr M' (b + 9) n) b := by
  have hs := hQ.2.2.2.2.1
  have hl := P_lg_in (ex := 1) hs (n / 2 - 2).toNat (by omega)
  unfold P_cpr
  refine Q_pts (Q_pts hQ (fun j hj => P_mx_in (hs _) (hs _) ⟨by omega, by omega⟩ (by omega))) (fun j _ => hs _)
theorem P_str_Q {M M' : ja_M} {b : Nat} {n : Int} (hQ : ja_Q M M' b) (hn : 4 ≤ n ∧ n ≤ 16) : ja_Q M (P_str M' (b + 9) n) b := by
  have hs := hQ.2.2.2.2.1
  have hl := P_lg_in (ex := 1) hs (n / 2 - 2).toNat (by omega)
  unfold P_str
  refine Q_pts (Q_pts (Q_pts hQ (fun j _ => hs _)) (fun j hj => P_mx_in (hs _) (hs _) ⟨by omega, by omega⟩ (by omega))) (fun j _ => hs _)
theorem P_con_Q {M : ja_M} {b : Nat} {n g : Int} (hQ : ja_Q M M b) (h2 : ∀ j, ja_sp (M (b + 9 + 2) j)) : ja_Q M (P_con M (b + 9) n g) b := by
  have hs := hQ.2.2.2.2.1
  unfold P_con
  exact Q_pts (Q_rw hQ (P_srr_in h2 hs _)) (fun j _ => P_csm_in h2 hs j)
theorem R_lw_Q {M : ja_M} {b : Nat} {x : Int} (hQ : ja_Q M M b) : ja_Q M (R_lw M b x) b := by
  have hs := hQ.2.2.2.2.1
  unfold R_lw
  exact Q_rw hQ (P_ldr_in hs _)
theorem R_pkn_Q {M : ja_M} {b : Nat} {x : Int} (hQ : ja_Q M M b) (hO : ja_SO M (b + 1)) : ja_Q M (R_pkn M b x) b := by
  have hw := R_lw_Q (x := x) hQ
  have hn : 4 ≤ M (b + 1) 0 ∧ M (b + 1) 0 ≤ 16 := hO.1
  unfold R_pkn
  split
  · exact P_cpr_Q (Q_ct hw (by omega)) hn
  · split
    · exact P_str_Q (Q_ct hw (by omega)) hn
    · exact Q_pts hw (fun j _ => hw.2.2.2.2.1 _)
theorem R_tf_RO {mem : ja_M} {b : Nat} {t : Int} (h : ja_RO mem b t) (hn : mem (b + 9) 6 ≤ 999) : ja_RO (R_tf mem b (mem (b + 9) 6)) b t := by
  have h0 := h
  obtain ⟨g1, g2, g3, g4, g5, g6, g7, g8, g9, g10, g11, g12⟩ := h
  obtain ⟨p1, p2, p3, p4, p5, p6⟩ := g3
  unfold R_tf
  split
  · obtain ⟨s1, s2, s4, s6⟩ := @P_beg_s (C_co mem (b + 14)) (b + 9) 3
    obtain ⟨c7, c8, c2⟩ := @C_co_s mem (b + 14)
    have hM : ja_Q (P_beg (C_co mem (b + 14)) (b + 9) 3) (P_beg (C_co mem (b + 14)) (b + 9) 3) b := Q_refl (by omega) (fun j => by rw [P_beg_o ⟨by omega, by omega⟩, C_co_o (by omega)]; exact p4 j) (fun j => by rw [P_beg_o ⟨by omega, by omega⟩, C_co_o (by omega)]; exact p6 j)
    obtain ⟨q1, q2, q3, q4, q5, q6⟩ := P_con_Q (n := mem (b + 1) 0) (g := mem (b + 14) 7 + 1) hM (fun j => by rw [P_beg_o ⟨by omega, by omega⟩, C_co_o (by omega)]; exact p5 j)
    refine R_taken h0 hn (fun q a1 a2 a3 a4 a5 => by rw [q1 q a1 a2 (by omega) a5, P_beg_o ⟨a1, by omega⟩, C_co_o a5]) q3 (by rw [q2 2 (by omega), s2]) (by rw [q2 4 (by omega), s4, C_co_o (by omega)]) (by rw [q2 6 (by omega), s6, C_co_o (by omega)]) q4 q5 ?_ ?_ ?_
    · rw [q6 7 (by omega), P_beg_o ⟨by omega, by omega⟩, c7]
      omega
    · rw [q6 8 (by omega), P_beg_o ⟨by omega, by omega⟩, c8]
      split <;> omega
    · rw [q6 2 (by omega), P_beg_o ⟨by omega, by omega⟩, c2]
      omega
  · generalize (if F_st mem (b + 1) (b + 2) (mem (b + 9) 6) = 2 then (1 : Int) else 2) = kd
    obtain ⟨s1, s2, s4, s6⟩ := @P_beg_s (C_kn mem (b + 14) kd) (b + 9) kd
    obtain ⟨c7, c8, c2⟩ := @C_kn_s mem (b + 14) kd
    have hM : ja_Q (P_beg (C_kn mem (b + 14) kd) (b + 9) kd) (P_beg (C_kn mem (b + 14) kd) (b + 9) kd) b := Q_refl (by omega) (fun j => by rw [P_beg_o ⟨by omega, by omega⟩, C_kn_o (by omega)]; exact p4 j) (fun j => by rw [P_beg_o ⟨by omega, by omega⟩, C_kn_o (by omega)]; exact p6 j)
    obtain ⟨q1, q2, q3, q4, q5, q6⟩ := R_pkn_Q (x := mem (b + 9) 6) hM (ja_SO_c (by rw [P_beg_o ⟨by omega, by omega⟩, C_kn_o (by omega)]) g1)
    refine R_taken h0 hn (fun q a1 a2 a3 a4 a5 => by rw [q1 q a1 a2 (by omega) a5, P_beg_o ⟨a1, by omega⟩, C_kn_o a5]) q3 (by rw [q2 2 (by omega), s2]) (by rw [q2 4 (by omega), s4, C_kn_o (by omega)]) (by rw [q2 6 (by omega), s6, C_kn_o (by omega)]) q4 q5 ?_ ?_ ?_
    · rw [q6 7 (by omega), P_beg_o ⟨by omega, by omega⟩, c7]
      omega
    · rw [q6 8 (by omega), P_beg_o ⟨by omega, by omega⟩, c8]
      omega
    · rw [q6 2 (by omega), P_beg_o ⟨by omega, by omega⟩, c2]
      omega
theorem P_out_o {mem : ja_M} {a q : Nat} (h : q ≠ a ∧ q ≠ a + 2) : P_out mem a q = mem q := by
  unfold P_out
  split
  · rw [ja_up_row h.1, ja_up_row h.1, ja_up_row h.2]
  · rfl
theorem P_out_PO {mem : ja_M} {a : Nat} (h : ja_PO mem a) (h4 : mem a 4 ≤ 999999) : ja_PO (P_out mem a) a ∧ P_out mem a a 4 ≤ mem a 4 + 1 ∧ P_out mem a a 6 = mem a 6 := by
  have h0 := h
  obtain ⟨p1, p2, p3, p4, p5, p6⟩ := h
  unfold P_out
  split
  · have e1 : ∀ m z1 z2, ja_up (ja_up m a 4 z1) a 2 z2 a 1 = m a 1 := fun m z1 z2 => by rw [ja_up_j (by omega), ja_up_j (by omega)]
    refine ⟨⟨?_, ?_, ?_, fun j => ?_, fun j => ?_, fun j => ?_⟩, ?_, ?_⟩
    · rw [ja_up_s, e1, ja_up_a (by omega)]
      omega
    · rw [ja_up_j (by omega), ja_up_s]
      omega
    · rw [ja_up_j (by omega), ja_up_j (by omega), ja_up_a (by omega)]
      omega
    · rw [ja_up_a (by omega), ja_up_a (by omega), ja_up_a (by omega)]
      exact p4 j
    · rw [ja_up_a (by omega), ja_up_a (by omega)]
      by_cases hj : j = (mem a 4 % 256).toNat
      · subst hj
        rw [ja_up_s]
        exact p4 _
      · rw [ja_up_j hj]
        exact p5 j
    · rw [ja_up_a (by omega), ja_up_a (by omega), ja_up_a (by omega)]
      exact p6 j
    · rw [ja_up_j (by omega), ja_up_s]
      omega
    · rw [ja_up_j (by omega), ja_up_j (by omega), ja_up_a (by omega)]
  · exact ⟨h0, by omega, rfl⟩
/-- but for the outputs, that may be one more than the time -/
theorem R_pl_RO {mem : ja_M} {b : Nat} {t : Int} (h : ja_RO mem b t) (ht : t ≤ 900000) : ja_PO (R_pl mem b) (b + 9) ∧ R_pl mem b (b + 9) 4 ≤ mem b 6 + 1 ∧ (∃ M, ja_RO M b t ∧ M b = mem b ∧ R_pl mem b (b + 9) 6 = M (b + 9) 6 ∧ ∀ q, q ≠ b + 9 → q ≠ b + 11 → R_pl mem b q = M q) := by
  have h0 := h
  obtain ⟨g1, g2, g3, g4, g5, g6, g7, g8, g9, g10, g11, g12⟩ := h
  unfold R_pl
  split
  · have key : ∀ M, ja_RO M b t → M b = mem b → ja_PO (P_out M (b + 9)) (b + 9) ∧ P_out M (b + 9) (b + 9) 4 ≤ mem b 6 + 1 ∧ (∃ M', ja_RO M' b t ∧ M' b = mem b ∧ P_out M (b + 9) (b + 9) 6 = M' (b + 9) 6 ∧ ∀ q, q ≠ b + 9 → q ≠ b + 11 → P_out M (b + 9) q = M' q) := by
      intro M hM hMb
      have h9 : M (b + 9) 4 ≤ M b 6 := hM.2.2.2.2.2.2.2.2.1
      rw [hMb] at h9
      obtain ⟨o1, o2, o3⟩ := P_out_PO hM.2.2.1 (by omega)
      exact ⟨o1, by omega, M, hM, hMb, o3, fun q q1 q2 => P_out_o ⟨q1, by omega⟩⟩
    split
    · rename_i hc
      refine key _ (R_tf_RO h0 hc.2) ?_
      have hb : R_tf mem b (mem (b + 9) 6) b = mem b := by
        obtain ⟨p1, p2, p3, p4, p5, p6⟩ := g3
        unfold R_tf
        split
        · obtain ⟨s1, s2, s4, s6⟩ := @P_beg_s (C_co mem (b + 14)) (b + 9) 3
          have hM : ja_Q (P_beg (C_co mem (b + 14)) (b + 9) 3) (P_beg (C_co mem (b + 14)) (b + 9) 3) b := Q_refl (by omega) (fun j => by rw [P_beg_o ⟨by omega, by omega⟩, C_co_o (by omega)]; exact p4 j) (fun j => by rw [P_beg_o ⟨by omega, by omega⟩, C_co_o (by omega)]; exact p6 j)
          rw [(P_con_Q (n := mem (b + 1) 0) (g := mem (b + 14) 7 + 1) hM (fun j => by rw [P_beg_o ⟨by omega, by omega⟩, C_co_o (by omega)]; exact p5 j)).1 b (by omega) (by omega) (by omega) (by omega), P_beg_o ⟨by omega, by omega⟩, C_co_o (by omega)]
        · generalize (if F_st mem (b + 1) (b + 2) (mem (b + 9) 6) = 2 then (1 : Int) else 2) = kd
          obtain ⟨s1, s2, s4, s6⟩ := @P_beg_s (C_kn mem (b + 14) kd) (b + 9) kd
          have hM : ja_Q (P_beg (C_kn mem (b + 14) kd) (b + 9) kd) (P_beg (C_kn mem (b + 14) kd) (b + 9) kd) b := Q_refl (by omega) (fun j => by rw [P_beg_o ⟨by omega, by omega⟩, C_kn_o (by omega)]; exact p4 j) (fun j => by rw [P_beg_o ⟨by omega, by omega⟩, C_kn_o (by omega)]; exact p6 j)
          rw [(R_pkn_Q (x := mem (b + 9) 6) hM (ja_SO_c (by rw [P_beg_o ⟨by omega, by omega⟩, C_kn_o (by omega)]) g1)).1 b (by omega) (by omega) (by omega) (by omega), P_beg_o ⟨by omega, by omega⟩, C_kn_o (by omega)]
      exact hb
    · exact key mem h0 rfl
  · exact ⟨g3, by omega, mem, h0, rfl, rfl, fun _ _ _ => rfl⟩
theorem R_tk_RO {mem : ja_M} {b : Nat} {t : Int} (h : ja_RO mem b t) (ht : t ≤ 900000) : ja_RO (R_tk mem b) b (t + 1) := by
  have hd := R_due_RO h ht
  obtain ⟨hP, h4, M, hM, hMb, h6, ho⟩ := R_pl_RO hd ht
  obtain ⟨g1, g2, g3, g4, g5, g6, g7, g8, g9, g10, g11, g12⟩ := hM
  have hb := ho b (by omega) (by omega)
  have hr : ∀ q, q ≠ b → R_tk mem b q = R_pl (R_due mem b) b q := fun q hq => by
    unfold R_tk
    exact ja_up_row hq
  have hx : ∀ q, q ≠ b → q ≠ b + 9 → q ≠ b + 11 → R_tk mem b q = M q := fun q a1 a2 a3 => by rw [hr q a1, ho q a2 a3]
  have e6 : R_tk mem b b 6 = M b 6 + 1 := by
    unfold R_tk
    rw [ja_up_s, hb]
  have ej : ∀ j, j ≠ 6 → R_tk mem b b j = M b j := fun j hj => by
    unfold R_tk
    rw [ja_up_j hj, hb]
  rw [← hMb] at h4
  refine ⟨ja_SO_c (hx _ (by omega) (by omega) (by omega)) g1, ja_TO_c (hx _ (by omega) (by omega) (by omega)) (hx _ (by omega) (by omega) (by omega)) (hx _ (by omega) (by omega) (by omega)) g2, ja_PO_c (hr _ (by omega)) (hr _ (by omega)) (hr _ (by omega)) (hr _ (by omega)) hP, ja_AO_c (fun q q1 q2 => hx q (by omega) (by omega) (by omega)) g4, ja_VO_c (hx _ (by omega) (by omega) (by omega)) (fun q q1 q2 => hx q (by omega) (by omega) (by omega)) g5, by rw [e6]; omega, by rw [ej 7 (by omega)]; exact g7, by rw [ej 8 (by omega)]; omega, by rw [e6, hr (b + 9) (by omega)]; exact h4, by rw [hx (b + 14) (by omega) (by omega) (by omega), hr (b + 9) (by omega), h6]; exact g10, by rw [hx (b + 14) (by omega) (by omega) (by omega), hr (b + 9) (by omega), h6]; exact g11, by rw [hx (b + 14) (by omega) (by omega) (by omega), hr (b + 9) (by omega), h6]; exact g12⟩
