section
-- the law: its script, its world, its end
/-- the law's script: L ints xs at the cell b, out of the way -/
def ja_X (C : ja_C) (b L : Nat) (xs : Nat → Int32) : Prop := match C with
  | (p, l, e, R, s, m, args, below, meth, c, D, cA, B, nL, Q) => va_X b L xs s s.heap ∧ b < s.heap.size ∧ b < B
section
variable {C : ja_C} {own : String} {cc : ByteArray} {nl : Nat} {rm : Room} {cells slots n : Nat} {lay : ja_Y} {mem : ja_M} {pc : Nat} {ls : List (Option Value)} {st : List Value}
theorem r_slen (F : ja_F C own cc nl rm) {b L : Nat} {xs : Nat → Int32} (X : ja_X C b L xs) (d : decode cc pc = .ok (.arraylength, 1)) {pc' : Nat} (hpc : pc + 1 = pc') (k : ja_W C cells slots lay mem n pc' ls (.int (ja_I (L : Int)) :: st)) : ja_W C cells slots lay mem n pc ls (.ref b :: st) := by
  subst hpc
  obtain ⟨p, l, e, R, s, m, args, below, meth, c, D, cA, B, nL, Q⟩ := C
  obtain ⟨hnl, hrm, hx, hb, hml, hown, hts, ⟨hK, hAO, hNw⟩, hlk, hB⟩ := F
  subst hnl; subst hrm
  obtain ⟨x1, x2, x3⟩ := X
  intro H locs lsA hH hS hl
  exact va_slen hx hb x1 x2 (Nat.not_le.mpr x3) hS d (k H locs lsA hH hS hl)
theorem r_sld (F : ja_F C own cc nl rm) {b L : Nat} {xs : Nat → Int32} (X : ja_X C b L xs) {z : Int} (h0 : 0 ≤ z) (h1 : z < L) (hL : L ≤ 2147483648) (d : decode cc pc = .ok (.iaload, 1)) {pc' : Nat} (hpc : pc + 1 = pc') (k : ja_W C cells slots lay mem n pc' ls (.int (ja_I (xs z.toNat).toInt) :: st)) : ja_W C cells slots lay mem n pc ls (.int (ja_I z) :: .ref b :: st) := by
  subst hpc
  obtain ⟨p, l, e, R, s, m, args, below, meth, c, D, cA, B, nL, Q⟩ := C
  obtain ⟨hnl, hrm, hx, hb, hml, hown, hts, ⟨hK, hAO, hNw⟩, hlk, hB⟩ := F
  subst hnl; subst hrm
  obtain ⟨x1, x2, x3⟩ := X
  intro H locs lsA hH hS hl
  have hk := k H locs lsA hH hS hl
  rw [ja_of, ← ja_clamp (z := z) ⟨by omega, by omega⟩] at hk
  exact va_sld hx hb x1 x2 (Nat.not_le.mpr x3) hS (ja_vpin h0 h1 hL) d hk
/-- two equal numbers: the branch is taken -/
theorem r_same (F : ja_F C own cc nl rm) {a b : Int} (h : a = b) {off : Int} {tgt : Nat} (d : decode cc pc = .ok (.if_icmp .eq off, 3)) (ht : (pc : Int) + off = (tgt : Int)) (k : ja_W C cells slots lay mem n tgt ls st) : ja_W C cells slots lay mem n pc ls (.int (ja_I b) :: .int (ja_I a) :: st) := by
  obtain ⟨p, l, e, R, s, m, args, below, meth, c, D, cA, B, nL, Q⟩ := C
  obtain ⟨hnl, hrm, hx, hb, hml, hown, hts, ⟨hK, hAO, hNw⟩, hlk, hB⟩ := F
  subst hnl; subst hrm
  intro H locs lsA hH hS hl
  exact lv_icmp_eq hx hb d ht (fun _ => k H locs lsA hH hS hl) (fun q => absurd (by rw [h]) q)
end
theorem ja_Nw {w : Cond} {A : Array Value} {U : State} (hn : ja_isN w = true) (h : w.before A U = true) : va_Nw w U := by
  cases w <;> first | exact va_Nw.of rfl h | (simp [ja_isN] at hn)
theorem ja_tb {w : Cond} (h : w ∈ lw_tbg) : w ∈ lw_tbl := (List.mem_filter.mp h).1
theorem ja_arrc {s : State} {args : Array Value} {ty : FieldType} (h : (Cond.arrayClass ty).before args s = true) : ∃ c, ArrOfT s c ty ∧ s.vm.findClass ("[" ++ ty.toString) = some c := by
  obtain ⟨c, k, comp, h1, h2, h3⟩ := Cond.arrayClass_spec h
  exact ⟨c, fun n z => ⟨fun k h => (by cases h), k, h2, comp, h3⟩, h1⟩
theorem ja_arro {s : State} {Cn : String} (h : va_AO Cn s) : ∃ c, ArrOfT s c (.object Cn) ∧ va_RA s c (.object Cn) := by
  obtain ⟨comp, c, k, h1, h2, h3, h4, h5⟩ := Cond.arrayOver_spec h
  exact ⟨c, fun n z => ⟨fun k h => (by cases h), k, h3, comp, h4⟩, k, comp, h3, h4, h1, h5⟩
/-- a world for the law -/
theorem ja_world {s : State} {args : Array Value} (hts : ∀ w ∈ lw_tbl, w.before args s = true) : ∃ (D : va_G) (cA : Nat → ClassId), ja_K D cA s := by
  have hg : ∀ w ∈ lw_tbg, w.before args s = true := fun w h => hts w (ja_tb h)
  obtain ⟨c0, i0, k0⟩ := u_known (C := RX0) (T := TX0) (N := 8) hg u_X0 (hg _ kI_X0)
  obtain ⟨c1, i1, k1⟩ := u_known (C := RX1) (T := TX1) (N := 5) hg u_X1 (hg _ kI_X1)
  obtain ⟨c2, i2, k2⟩ := u_known (C := RX2) (T := TX2) (N := 9) hg u_X2 (hg _ kI_X2)
  obtain ⟨c3, i3, k3⟩ := u_known (C := RX3) (T := TX3) (N := 3) hg u_X3 (hg _ kI_X3)
  obtain ⟨c4, i4, k4⟩ := u_known (C := RX4) (T := TX4) (N := 8) hg u_X4 (hg _ kI_X4)
  obtain ⟨c5, i5, k5⟩ := u_known (C := RX5) (T := TX5) (N := 9) hg u_X5 (hg _ kI_X5)
  obtain ⟨c6, i6, k6⟩ := u_known (C := RX6) (T := TX6) (N := 9) hg u_X6 (hg _ kI_X6)
  obtain ⟨c7, i7, k7⟩ := u_known (C := RX7) (T := TX7) (N := 4) hg u_X7 (hg _ kI_X7)
  obtain ⟨c8, i8, k8⟩ := u_known (C := RX8) (T := TX8) (N := 5) hg u_X8 (hg _ kI_X8)
  obtain ⟨c9, i9, k9⟩ := u_known (C := RX9) (T := TX9) (N := 11) hg u_X9 (hg _ kI_X9)
  obtain ⟨ai, a0, a1⟩ := ja_arrc (hg _ a_int)
  obtain ⟨al, b0, b1⟩ := ja_arrc (hg _ a_long)
  obtain ⟨ab, d0, d1⟩ := ja_arrc (hg _ a_boolean)
  have hAO : va_AO RX5 s := va_AO.of (hts _ kO_X5)
  obtain ⟨ao, e0, e1⟩ := ja_arro hAO
  refine ⟨(fun k => match k with | 0 => c0 | 1 => c1 | 2 => c2 | 3 => c3 | 4 => c4 | 5 => c5 | 6 => c6 | 7 => c7 | 8 => c8 | _ => c9, fun k => match k with | 0 => i0 | 1 => i1 | 2 => i2 | 3 => i3 | 4 => i4 | 5 => i5 | 6 => i6 | 7 => i7 | 8 => i8 | _ => i9), fun k => match k with | 0 => ai | 1 => al | 2 => ab | _ => ao, ⟨fun k q hq => ?_, fun k q hq => ?_⟩, hAO, fun w hw hn => ja_Nw hn (hts w hw)⟩
  · match k, hq with
    | 0, hq => cases hq; exact k0
    | 1, hq => cases hq; exact k1
    | 2, hq => cases hq; exact k2
    | 3, hq => cases hq; exact k3
    | 4, hq => cases hq; exact k4
    | 5, hq => cases hq; exact k5
    | 6, hq => cases hq; exact k6
    | 7, hq => cases hq; exact k7
    | 8, hq => cases hq; exact k8
    | 9, hq => cases hq; exact k9
    | k + 10, hq => simp [vwCl] at hq
  · match k, hq with
    | 0, hq => cases hq; exact ⟨a0, a1⟩
    | 1, hq => cases hq; exact ⟨b0, b1⟩
    | 2, hq => cases hq; exact ⟨d0, d1⟩
    | 3, hq => cases hq; exact ⟨e0, e1⟩
    | k + 4, hq => simp [ja_tys] at hq
end
section
-- a receiver's methods leave all rows but the receiver's own
theorem P_pts_oo {mem : ja_M} {a q k : Nat} {h : Nat → Int} (hq : q ≠ a ∧ q ≠ a + 1) : P_pts mem a h k q = mem q := P_pts_o hq k
theorem P_cpr_o {mem : ja_M} {a q : Nat} {z : Int} (h : q ≠ a ∧ q ≠ a + 1) : P_cpr mem a z q = mem q := by
  unfold P_cpr
  rw [P_pts_oo h, P_pts_oo h]
theorem P_str_o {mem : ja_M} {a q : Nat} {z : Int} (h : q ≠ a ∧ q ≠ a + 1) : P_str mem a z q = mem q := by
  unfold P_str
  rw [P_pts_oo h, P_pts_oo h, P_pts_oo h]
theorem P_con_o {mem : ja_M} {a q : Nat} {z g : Int} (h : q ≠ a ∧ q ≠ a + 1) (h4 : q ≠ a + 4) : P_con mem a z g q = mem q := by
  unfold P_con
  rw [P_pts_oo h, ja_rw_n h4]
theorem R_lw_o {mem : ja_M} {b q : Nat} {x : Int} (h : q ≠ b + 9 + 4) : R_lw mem b x q = mem q := by
  unfold R_lw
  exact ja_rw_n h
theorem R_pkn_o {mem : ja_M} {b q : Nat} {x : Int} (h : q ≠ b + 9 ∧ q ≠ b + 9 + 1) (h4 : q ≠ b + 9 + 4) (hc : q ≠ b + 14) : R_pkn mem b x q = mem q := by
  unfold R_pkn
  split
  · rw [P_cpr_o h, ja_up_row hc, R_lw_o h4]
  · split
    · rw [P_str_o h, ja_up_row hc, R_lw_o h4]
    · rw [P_pts_oo h, R_lw_o h4]
theorem R_tf_o {mem : ja_M} {b q : Nat} {x : Int} (h : q < b + 9 ∨ b + 15 ≤ q) : R_tf mem b x q = mem q := by
  unfold R_tf
  split
  · rw [P_con_o ⟨by omega, by omega⟩ (by omega), P_beg_o ⟨by omega, by omega⟩, C_co_o (by omega)]
  · rw [R_pkn_o ⟨by omega, by omega⟩ (by omega) (by omega), P_beg_o ⟨by omega, by omega⟩, C_kn_o (by omega)]
theorem R_pl_o {mem : ja_M} {b q : Nat} (h : q < b + 9 ∨ b + 15 ≤ q) : R_pl mem b q = mem q := by
  unfold R_pl
  split
  · rw [P_out_o ⟨by omega, by omega⟩]
    split
    · exact R_tf_o h
    · rfl
  · rfl
theorem R_af_f {mem : ja_M} {b q : Nat} {x : Int} (h : q < b ∨ b + 15 ≤ q) : R_af mem b x q = mem q := by
  unfold R_af
  split
  · rw [R_rs_o (by omega), R_kn, F_ad_o ⟨by omega, by omega⟩, R_lt_o (by omega), R_ad_o ⟨by omega, by omega⟩]
  · unfold R_dp
    exact ja_up_row (by omega)
theorem R_ap_f {mem : ja_M} {b q : Nat} {r k i : Int} (h : q < b ∨ b + 15 ≤ q) : R_ap mem b r k i q = mem q := by
  unfold R_ap
  split
  · rw [R_rs_o (by omega), R_pk, F_ap_o (by omega), R_so_o (by omega)]
  · unfold R_dp
    exact ja_up_row (by omega)
theorem R_du_f {mem : ja_M} {b q : Nat} (h : q < b ∨ b + 15 ≤ q) : ∀ k, R_du mem b k q = mem q
  | 0 => rfl
  | k + 1 => by
    simp only [R_du]
    split
    · split
      · exact (R_af_f h).trans (R_du_f h k)
      · exact (R_ap_f h).trans (R_du_f h k)
    · exact R_du_f h k
theorem R_due_f {mem : ja_M} {b q : Nat} (h : q < b ∨ b + 20 ≤ q) : R_due mem b q = mem q := by
  unfold R_due
  rw [A_rem_o (by omega), R_du_f (by omega)]
theorem R_tk_f {mem : ja_M} {b q : Nat} (h : q < b ∨ b + 20 ≤ q) : R_tk mem b q = mem q := by
  unfold R_tk
  rw [ja_up_row (by omega), R_pl_o (by omega), R_due_f h]
theorem B_adv_f {mem : ja_M} {b q : Nat} (h : q < b ∨ b + 20 ≤ q) : ∀ k, B_adv mem b k q = mem q
  | 0 => rfl
  | k + 1 => (R_tk_f h).trans (B_adv_f h k)
theorem B_gap_f {b q : Nat} {c : Int} (h : q < b ∨ b + 20 ≤ q) : ∀ (r i : Nat) (m : ja_M), (B_gap b c r i m).2 q = m q
  | 0, _, _ => rfl
  | r + 1, i, m => by
    simp only [B_gap]
    split
    · exact R_tk_f h
    · exact (B_gap_f h r (i + 1) _).trans (R_tk_f h)
theorem B_fra_f {b q : Nat} {x : Int} (h : q < b ∨ b + 20 ≤ q) : ∀ (r i : Nat) (m : ja_M), (B_fra b x r i m).2 q = m q
  | 0, _, _ => rfl
  | r + 1, i, m => by
    simp only [B_fra]
    split
    · exact R_tk_f h
    · exact (B_fra_f h r (i + 1) _).trans (R_tk_f h)
theorem B_sc_f {mem : ja_M} {y q : Nat} (hH : ja_HO mem (y + 42)) (hA : ja_AO mem (y + 44)) (h : q < y + 16 ∨ (y + 21 ≤ q ∧ q < y + 42) ∨ y + 49 ≤ q) : (B_sc mem y).2 q = mem q := by
  have hr := (B_rd_all hH hA).2.2 q (by omega)
  unfold B_sc
  split
  · split
    · exact hr
    · split
      · exact hr
      · exact (A_all_o (by omega) _).trans hr
  · exact hr
end
section
-- THE FRESH STATE
theorem Z_shr (z : Int) : ja_shr (ja_L 0) z &&& 1 = 0 := by
  have e : ja_L 0 = 0 := rfl
  unfold ja_shr
  rw [e, Int64.zero_shiftRight, Int64.zero_and]
theorem Z_andn (x : Int64) : x &&& (x ^^^ (-1)) = 0 := by rw [Int64.xor_neg_one, Int64.and_not_self]
theorem Z_bc : J_bc 0 = 0 := by decide +kernel
theorem Z_and0 (z : Int) : F_and 0 z = 0 := by
  have e : ja_I 0 = 0 := rfl
  unfold F_and
  rw [e, Int32.zero_and]
  rfl
theorem Z_xor0 {z : Int} (h : ja_in z) : (ja_I z ^^^ ja_I 0).toInt = z := by
  have e : ja_I 0 = 0 := rfl
  rw [e, Int32.xor_zero, ja_toInt h]
/-- a class object y and a reference m, just made -/
def L_fr (lay : ja_Y) (mem : ja_M) (n y m : Nat) : Prop := m = y + 49 ∧ n = y + 58 ∧ ja_LB lay y (fun _ => none) ∧ ja_LM lay m ∧ ja_S0 mem (y + 1 + 1) ∧ ja_S0 mem (y + 21 + 1) ∧ (∀ q j, y ≤ q → q < y + 49 → q ≠ y + 1 + 1 → q ≠ y + 21 + 1 → mem q j = 0) ∧ mem (m + 1) = N_v0 ∧ ∀ q j, m ≤ q → q < m + 9 → q ≠ m + 1 → mem q j = 0
/-- a fresh receiver -/
def Z_R (mem : ja_M) (b : Nat) : Prop := ja_S0 mem (b + 1) ∧ ∀ q j, b ≤ q → q < b + 20 → q ≠ b + 1 → mem q j = 0
theorem L_fr.R {lay : ja_Y} {mem : ja_M} {n y m : Nat} (h : L_fr lay mem n y m) : Z_R mem (y + 1) := ⟨h.2.2.2.2.1, fun q j a b c => h.2.2.2.2.2.2.1 q j (by omega) (by omega) (by omega) (by omega)⟩
theorem L_fr.BO {lay : ja_Y} {mem : ja_M} {n y m : Nat} (h : L_fr lay mem n y m) : ja_BO mem y (fun _ => none) 0 := BO_0 h.2.2.2.2.1 h.2.2.2.2.2.1 h.2.2.2.2.2.2.1
theorem N_v0_z {j : Nat} (h : 9 ≤ j) (h10 : j ≠ 10) : N_v0 j = 0 := by
  unfold N_v0
  rw [if_neg h10, if_neg (by omega), if_neg (by omega), if_neg (by omega), if_neg (by omega), if_neg (by omega), if_neg (by omega), if_neg (by omega), if_neg (by omega), if_neg (by omega)]
theorem N_v0_R : N_R N_v0 := by
  intro j hj
  by_cases h : j < 30
  · have key : ∀ j : Fin 30, N_in j.val (N_v0 j.val) := by
      intro j
      match j with
      | ⟨0, _⟩ => exact (by decide : (4 : Int) ≤ 8 ∧ (8 : Int) ≤ 16)
      | ⟨1, _⟩ => exact (by decide : (2 : Int) ≤ 16 ∧ (16 : Int) ≤ 32)
      | ⟨2, _⟩ => exact (by decide : (1 : Int) ≤ 25 ∧ (25 : Int) ≤ 200)
      | ⟨3, _⟩ => exact (by decide : (2 : Int) ≤ 4 ∧ (4 : Int) ≤ 6)
      | ⟨4, _⟩ => exact (by decide : (2 : Int) ≤ 4 ∧ (4 : Int) ≤ 6)
      | ⟨5, _⟩ => exact (by decide : (0 : Int) ≤ 16 ∧ (16 : Int) ≤ 200)
      | ⟨6, _⟩ => exact (by decide : (1 : Int) ≤ 90 ∧ (90 : Int) ≤ 100)
      | ⟨7, _⟩ => exact (by decide : (0 : Int) ≤ 8 ∧ (8 : Int) ≤ 100)
      | ⟨8, _⟩ => exact (by decide : (0 : Int) ≤ 1 ∧ (1 : Int) ≤ 1)
      | ⟨9, _⟩ => exact (by decide : (0 : Int) ≤ 0 ∧ (0 : Int) ≤ 900002)
      | ⟨10, _⟩ => exact (by decide : (-1 : Int) ≤ -1 ∧ (-1 : Int) ≤ 900300)
      | ⟨11, _⟩ => exact (by decide : (0 : Int) ≤ 0 ∧ (0 : Int) ≤ 1000)
      | ⟨12, _⟩ => exact (by decide : (0 : Int) ≤ 0 ∧ (0 : Int) ≤ 900002)
      | ⟨13, _⟩ => exact (by decide : (0 : Int) ≤ 0 ∧ (0 : Int) ≤ 1000)
      | ⟨14, _⟩ => exact (by decide : (0 : Int) ≤ 0 ∧ (0 : Int) ≤ 1000)
      | ⟨15, _⟩ => exact trivial
      | ⟨16, _⟩ => exact trivial
      | ⟨17, _⟩ => exact trivial
      | ⟨18, _⟩ => exact trivial
      | ⟨19, _⟩ => exact trivial
      | ⟨20, _⟩ => exact trivial
      | ⟨21, _⟩ => exact (by decide : (0 : Int) ≤ 0 ∧ (0 : Int) ≤ 1000)
      | ⟨22, _⟩ => exact (by decide : (0 : Int) ≤ 0 ∧ (0 : Int) ≤ 24)
      | ⟨23, _⟩ => exact (by decide : (0 : Int) ≤ 0 ∧ (0 : Int) ≤ 24)
      | ⟨24, _⟩ => exact (by decide : (0 : Int) ≤ 0 ∧ (0 : Int) ≤ 16)
      | ⟨25, _⟩ => exact (by decide : (0 : Int) ≤ 0 ∧ (0 : Int) ≤ 24)
      | ⟨26, _⟩ => exact trivial
      | ⟨27, _⟩ => exact (by decide : (0 : Int) ≤ 0 ∧ (0 : Int) ≤ 3)
      | ⟨28, _⟩ => exact trivial
      | ⟨29, _⟩ => exact trivial
      | ⟨n + 30, hn⟩ => omega
    exact key ⟨j, h⟩
  · rw [N_v0_z (by omega) (by omega)]
    unfold N_in
    rw [if_neg h]
    split
    · omega
    · split
      · omega
      · split
        · omega
        · split
          · omega
          · split
            · omega
            · split
              · omega
              · omega
theorem N_v0_O : N_O N_v0 0 := by
  refine ⟨N_v0_R, ?_, fun j h0 h1 => ?_⟩
  · rw [N_v0_z (j := 9) (by omega) (by omega), N_v0_z (j := 11) (by omega) (by omega), N_v0_z (j := 12) (by omega) (by omega), N_v0_z (j := 13) (by omega) (by omega), N_v0_z (j := 14) (by omega) (by omega), N_v0_z (j := 21) (by omega) (by omega), N_v0_z (j := 22) (by omega) (by omega), N_v0_z (j := 23) (by omega) (by omega), show N_v0 10 = -1 from rfl]
    omega
  · rw [N_v0_z (j := 25) (by omega) (by omega)] at h1
    omega
-- known frames
theorem Z_st {mem : ja_M} {b : Nat} (h : Z_R mem b) (x : Int) : F_st mem (b + 1) (b + 2) x = 0 := by
  unfold F_st
  rw [h.2 (b + 2 + 2) _ (by omega) (by omega) (by omega), h.2 (b + 2 + 1) _ (by omega) (by omega) (by omega), if_pos (Z_shr _), if_pos (Z_shr _)]
theorem Z_kn (x : Int) (h : 0 ≤ x ∧ x ≤ 999) : ¬ N_kn N_v0 x := by
  intro q
  rcases q with q | q
  · omega
  · rw [N_v0_z (by omega) (by omega)] at q
    omega
-- without packets nothing is restored: the class
theorem Z_ln {mem : ja_M} {s : Nat} {r : Int} {x : Int64} : ∀ k, F_ln mem s 0 r x k = x
  | 0 => rfl
  | k + 1 => by
    simp only [F_ln]
    rw [Z_ln k]
    unfold F_wl
    rw [if_pos (Z_and0 _)]
theorem Z_cp {mem : ja_M} {s : Nat} {x : Int64} {p : Int} (h : F_rd mem s p x = x) : ∀ k, F_cp mem s p k x = x
  | 0 => rfl
  | k + 1 => by
    simp only [F_cp]
    rw [if_pos h]
theorem Z_rn {mem : ja_M} {b : Nat} {k : Int} (h : F_rd mem (b + 1) (mem (b + 2 + 3) k.toNat) (F_kn mem (b + 1) (b + 2) k) = F_kn mem (b + 1) (b + 2) k) : R_rn mem b k = 0 := by
  unfold R_rn F_re
  rw [Z_cp h, Z_andn, Z_bc]
theorem Z_rn0 {mem : ja_M} {b : Nat} {k : Int} (h : mem (b + 2 + 3) k.toNat = 0) : R_rn mem b k = 0 := by
  refine Z_rn ?_
  rw [h]
  unfold F_rd
  rw [Z_ln, Z_ln]
theorem Z_an {mem : ja_M} {b : Nat} (h : Z_R mem b) (x : Int) : R_an mem b x = 1 := by
  unfold R_an
  rw [if_pos (Z_st h x), Z_rn0]
  · rfl
  · rw [R_kn, F_ad_o ⟨by omega, by omega⟩, R_lt_o (by omega), R_ad_o ⟨by omega, by omega⟩]
    exact h.2 _ _ (by omega) (by omega) (by omega)
-- the reference
theorem Z_rr {v : Nat → Int} {r k : Int} (hS : N_S v) (hk : N_hB v k) (hp : ∀ j, 1030 ≤ j → j < 2054 → v j = 0) : ∀ j : Nat, j ≤ 6 → N_rr 0 v r k j = (0, v)
  | 0, _ => rfl
  | j + 1, hj => by
    have hpk := N_pk_in (r := r) (i := (j : Int)) hS hk ⟨by omega, by omega⟩
    simp only [N_rr]
    rw [Z_rr hS hk hp j (by omega)]
    rw [if_neg]
    intro q
    rcases q with q | q
    · exact q trivial
    · have q2 : v (N_pk v r k (j : Int)).toNat = 1 := q
      rw [hp _ (by omega) (by omega)] at q2
      omega
theorem Z_rs {v : Nat → Int} {k : Int} (hS : N_S v) (hk : N_hB v k) (hp : ∀ j, 1030 ≤ j → j < 2054 → v j = 0) : N_rs 0 k 40 0 v = (0, v) := by
  have s3 := hS.2.2.2.1
  have s4 := hS.2.2.2.2.1
  have h1 : N_rd 0 v k = (0, v) := by
    unfold N_rd
    rw [Z_rr hS hk hp _ (by omega)]
    dsimp only
    rw [Z_rr hS hk hp _ (by omega)]
    rfl
  simp only [N_rs]
  rw [h1]
  rfl
theorem Z_Nan {x : Int} (hx : 0 ≤ x ∧ x ≤ 999) : N_an N_v0 x = 1 := by
  have hO := N_aw_O N_v0_O (by omega) hx
  have hs := N_aw_ss N_v0_O (by omega) hx
  unfold N_an
  rw [if_neg (Z_kn x hx), Z_rs hO.1.S (hs.hB.mpr (N_blk N_v0_R.S hx))]
  · rfl
  · intro j h0 h1
    have hb := N_be_O N_v0_O (by omega)
    obtain ⟨r0, r1, r2⟩ := N_s0_R (N_a1_R hb.1 hx).1
    unfold N_aw N_se
    rw [ja_rs_n (by omega), ja_rs_n (by omega)]
    have e0 : N_s0 (N_a1 (N_be N_v0) x) j = N_a1 (N_be N_v0) x j := by
      unfold N_s0
      split
      · rw [ja_rs_n (by omega), N_sh_n 15 (by omega)]
      · rfl
    rw [e0, N_a1, ja_rs_n (by omega), ja_rs_n (by omega), N_be_n (by omega), N_v0_z (by omega) (by omega)]
end
section
-- lines of the fresh state: none lacks just one frame
def Z_zx (k : Int) : Int64 := ja_L 0 ||| (if 1000 - k * 16 < 64 then ja_shl (-1) (1000 - k * 16) else 0)
abbrev Z_4 : ja_M := fun _ _ => 4
set_option maxRecDepth 100000 in
theorem Z_all : ∀ (k : Fin 63) (i : Fin 4), (J_bc (F_lb Z_4 0 0 (i.val : Int) &&& (Z_zx (k.val : Int) ^^^ (-1))) = N_mi N_v0 0 (k.val : Int) (i.val : Int) 4 ∧ ¬ N_mi N_v0 0 (k.val : Int) (i.val : Int) 4 = 1) ∧ (J_bc (F_lb Z_4 0 1 (i.val : Int) &&& (Z_zx (k.val : Int) ^^^ (-1))) = N_mi N_v0 1 (k.val : Int) (i.val : Int) 4 ∧ ¬ N_mi N_v0 1 (k.val : Int) (i.val : Int) 4 = 1) := by decide +kernel
set_option maxRecDepth 100000 in
theorem Z_unr : ∀ (k : Fin 63), J_bc ((ja_shl 1 16 - 1) &&& (Z_zx (k.val : Int) ^^^ (-1))) = ((N_un N_v0 (16 * (k.val : Int)) 16 : Nat) : Int) := by decide +kernel
theorem Z_line {r k i : Int} (hr : 0 ≤ r ∧ r ≤ 1) (hk : 0 ≤ k ∧ k ≤ 62) (hi : 0 ≤ i ∧ i ≤ 3) : J_bc (F_lb Z_4 0 r i &&& (Z_zx k ^^^ (-1))) = N_mi N_v0 r k i 4 ∧ ¬ N_mi N_v0 r k i 4 = 1 := by
  obtain ⟨h0, h1⟩ := Z_all ⟨k.toNat, by omega⟩ ⟨i.toNat, by omega⟩
  rw [show ((k.toNat : Nat) : Int) = k by omega, show ((i.toNat : Nat) : Int) = i by omega] at h0 h1
  rcases (show r = 0 ∨ r = 1 by omega) with rfl | rfl
  · exact h0
  · exact h1
theorem F_lbc_c {cols i : Int} (h : cols = 4) : ∀ k, F_lbc cols i k = F_lbc 4 i k := fun k => by rw [h]
theorem Z_lb {mem : ja_M} {s : Nat} (h3 : mem s 3 = 4) (h4 : mem s 4 = 4) (r i : Int) : F_lb mem s r i = F_lb Z_4 0 r i := by
  unfold F_lb
  rw [h3, h4]
theorem Z_knx {mem : ja_M} {b : Nat} (h : Z_R mem b) (k : Int) : F_kn mem (b + 1) (b + 2) k = Z_zx k := by
  obtain ⟨-, -, -, s3, s4, -⟩ := h.1
  unfold F_kn F_bey Z_zx ja_cells
  rw [h.2 (b + 2 + 1) _ (by omega) (by omega) (by omega), s3, s4]
  rfl
theorem Z_wl {mem : ja_M} {s : Nat} {x : Int64} {p r i : Int} (h : ¬ J_bc (F_lb mem s r i &&& (x ^^^ (-1))) = 1) : F_wl mem s x p r i = x := by
  unfold F_wl
  by_cases hp : F_and p (F_pb r i) = 0
  · rw [if_pos hp]
  · rw [if_neg hp, if_neg h]
theorem Z_ln2 {mem : ja_M} {s : Nat} {p r : Int} {x : Int64} : ∀ n : Nat, (∀ j : Nat, j < n → ¬ J_bc (F_lb mem s r (j : Int) &&& (x ^^^ (-1))) = 1) → F_ln mem s p r x n = x
  | 0, _ => rfl
  | n + 1, h => by
    simp only [F_ln]
    rw [Z_ln2 n (fun j hj => h j (by omega))]
    exact Z_wl (h n (by omega))
/-- whatever packets there are, nothing is restored -/
theorem Z_rd {mem : ja_M} {s : Nat} {p k : Int} (h3 : mem s 3 = 4) (h4 : mem s 4 = 4) (hk : 0 ≤ k ∧ k ≤ 62) : F_rd mem s p (Z_zx k) = Z_zx k := by
  have key : ∀ r : Int, (0 ≤ r ∧ r ≤ 1) → F_ln mem s p r (Z_zx k) (4 : Int).toNat = Z_zx k := fun r hr => Z_ln2 _ (fun j hj => by
    rw [Z_lb h3 h4]
    have hz := Z_line (r := r) (i := (j : Int)) hr hk ⟨by omega, by omega⟩
    rw [hz.1]
    exact hz.2)
  unfold F_rd
  rw [h3, h4, key 1 (by omega), key 0 (by omega)]
theorem Z_hP {mem : ja_M} {b : Nat} (h : Z_R mem b) {r k i : Int} (hP : ja_hasP mem (b + 1) r k i) : (0 ≤ k ∧ k ≤ 62) ∧ 0 ≤ i ∧ i ≤ 3 := by
  obtain ⟨-, -, -, s3, s4, -⟩ := h.1
  obtain ⟨⟨h1, h2⟩, h3, h4⟩ := hP
  unfold ja_cells at h2
  rw [s3, s4] at h2
  have e : (999 : Int) / (4 * 4) = 62 := by decide
  rw [e] at h2
  rw [s3, s4] at h4
  exact ⟨⟨h1, h2⟩, h3, by split at h4 <;> omega⟩
theorem Z_pn {mem : ja_M} {b : Nat} (h : Z_R mem b) {r k i : Int} (hP : ja_hasP mem (b + 1) r k i) : R_pn mem b r k i = 0 := by
  obtain ⟨hk, hi⟩ := Z_hP h hP
  obtain ⟨-, -, -, s3, s4, -⟩ := h.1
  have e1 : R_pk mem b r k i (b + 1) = mem (b + 1) := by rw [R_pk, F_ap_o (by omega), R_so_o (by omega)]
  have e2 : R_pk mem b r k i (b + 2 + 1) = mem (b + 2 + 1) := by rw [R_pk, F_ap_o (by omega), R_so_o (by omega)]
  unfold R_pn
  split
  · refine Z_rn ?_
    have e3 : F_kn (R_pk mem b r k i) (b + 1) (b + 2) k = Z_zx k := by
      rw [← Z_knx h k]
      unfold F_kn F_bey ja_cells
      rw [e1, e2]
    rw [e3]
    exact Z_rd (by rw [e1]; exact s3) (by rw [e1]; exact s4) hk
  · rfl
-- the reference
theorem N_mi_c {v w : Nat → Int} {r k i : Int} (hs : N_ss v w) (hS : N_S v) (hk : N_hB v k) (hi : 0 ≤ i ∧ i ≤ 6) (hf : ∀ j, 30 ≤ j → j < 1030 → w j = v j) : ∀ c : Nat, c ≤ 6 → N_mi w r k i c = N_mi v r k i c
  | 0, _ => rfl
  | c + 1, hc => by
    have hcv := N_cv_in (r := r) (j := (c : Int)) hS hk hi ⟨by omega, by omega⟩
    simp only [N_mi]
    rw [N_mi_c hs hS hk hi hf c (by omega), hs.cv]
    have he : N_kn w (N_cv v r k i c) ↔ N_kn v (N_cv v r k i c) := by
      by_cases h9 : 999 < N_cv v r k i c
      · exact ⟨fun _ => Or.inl h9, fun _ => Or.inl h9⟩
      · unfold N_kn
        rw [hf _ (by omega) (by omega)]
    by_cases hq : N_kn v (N_cv v r k i c)
    · rw [if_pos hq, if_pos (he.mpr hq)]
    · rw [if_neg hq, if_neg (fun q => hq (he.mp q))]
theorem Z_rr2 {a : Int} {v : Nat → Int} {r k : Int} : ∀ n : Nat, (∀ j : Nat, j < n → ¬ N_mi v r k (j : Int) (N_cs v r).toNat = 1) → N_rr a v r k n = (0, v)
  | 0, _ => rfl
  | n + 1, h => by
    simp only [N_rr]
    rw [Z_rr2 n (fun j hj => h j (by omega))]
    have e1 : N_rn v r k (n : Int) = 0 := by rw [N_rn, if_neg (h n (by omega))]
    have e2 : N_rv v r k (n : Int) = v := by rw [N_rv, if_neg (h n (by omega))]
    split
    · dsimp only
      rw [e1, e2]
      rfl
    · rfl
theorem Z_rs2 {a : Int} {v : Nat → Int} {k : Int} (h1 : ∀ j : Nat, j < (v 4).toNat → ¬ N_mi v 1 k (j : Int) (N_cs v 1).toNat = 1) (h0 : ∀ j : Nat, j < (v 3).toNat → ¬ N_mi v 0 k (j : Int) (N_cs v 0).toNat = 1) : N_rs a k 40 0 v = (0, v) := by
  have e : N_rd a v k = (0, v) := by
    unfold N_rd
    rw [Z_rr2 _ h1]
    dsimp only
    rw [Z_rr2 _ h0]
    rfl
  simp only [N_rs]
  rw [e]
  rfl
theorem Z_hPN {r k i : Int} (hP : N_hP N_v0 r k i) : (0 ≤ k ∧ k ≤ 62) ∧ 0 ≤ i ∧ i ≤ 3 := by
  obtain ⟨⟨h1, h2⟩, h3, h4⟩ := hP
  have e : (999 : Int) / N_ar N_v0 = 62 := by decide
  rw [e] at h2
  exact ⟨⟨h1, h2⟩, h3, by split at h4 <;> (first | (have e3 : N_v0 3 = 4 := rfl; omega) | (have e4 : N_v0 4 = 4 := rfl; omega))⟩
theorem Z_hB62 {k : Int} (hk : 0 ≤ k ∧ k ≤ 62) : N_hB N_v0 k := by
  refine ⟨hk.1, ?_⟩
  have e : (999 : Int) / N_ar N_v0 = 62 := by decide
  omega
theorem Z_rs3 {a : Int} {w : Nat → Int} {k : Int} (hk : 0 ≤ k ∧ k ≤ 62) (hs : N_ss N_v0 w) (hf : ∀ j, 30 ≤ j → j < 1030 → w j = N_v0 j) : N_rs a k 40 0 w = (0, w) := by
  have e3 : w 3 = 4 := hs 3 (by omega)
  have e4 : w 4 = 4 := hs 4 (by omega)
  have key : ∀ (r : Int) (j : Nat), (0 ≤ r ∧ r ≤ 1) → j < 4 → ¬ N_mi w r k (j : Int) (N_cs w r).toNat = 1 := fun r j hr hj => by
    have ec : (N_cs w r).toNat = 4 := by
      unfold N_cs
      rw [e3, e4]
      split <;> rfl
    rw [ec, N_mi_c hs N_v0_R.S (Z_hB62 hk) ⟨by omega, by omega⟩ hf 4 (by omega)]
    exact (Z_line hr hk ⟨by omega, by omega⟩).2
  exact Z_rs2 (fun j hj => key 1 j (by omega) (by rw [e4] at hj; omega)) (fun j hj => key 0 j (by omega) (by rw [e3] at hj; omega))
theorem Z_qn {r k i : Int} (hP : N_hP N_v0 r k i) : N_qn N_v0 r k i = 0 := by
  obtain ⟨hk, hi⟩ := Z_hPN hP
  have hpk := N_pk_in (r := r) (i := i) N_v0_R.S (Z_hB62 hk) ⟨by omega, by omega⟩
  unfold N_qn
  split
  · rfl
  · rw [Z_rs3 hk]
    · intro j hj
      rw [N_qw, ja_rs_n (by omega), N_be_n (by omega)]
    · intro j h0 h1
      rw [N_qw, ja_rs_n (by omega), N_be_n (by omega)]
theorem Z_ur {mem : ja_M} {b : Nat} (h : Z_R mem b) {k : Int} (hk : 0 ≤ k ∧ k ≤ 62) : J_bc ((ja_shl 1 (ja_cells mem (b + 1)) - 1) &&& (F_cp mem (b + 1) (-1) 37 (F_kn mem (b + 1) (b + 2) k) ^^^ (-1))) = N_ur N_v0 k := by
  obtain ⟨-, -, -, s3, s4, -⟩ := h.1
  rw [Z_knx h, Z_cp (Z_rd s3 s4 hk)]
  have hz := Z_unr ⟨k.toNat, by omega⟩
  rw [show ((k.toNat : Nat) : Int) = k by omega] at hz
  unfold ja_cells N_ur
  rw [s3, s4, Z_rs3 hk N_ss.rf (fun _ _ _ => rfl), show (4 * 4 : Int) = 16 from rfl, show N_ar N_v0 = 16 by decide, hz]
  rfl
end
section
-- a copy, place by place
theorem ja_cp_i {mem : ja_M} {a0 a1 k j : Nat} (h : j < k) : ja_cp mem a0 a1 0 0 k a1 j = mem a0 j := by
  unfold ja_cp
  rw [if_pos ⟨rfl, by omega, by omega⟩]
  congr 1
  omega
/-- receiver b holds what receiver o holds (in another memory) -/
def R_eq (mem' : ja_M) (b : Nat) (mem : ja_M) (o : Nat) : Prop := (∀ j, j < 9 → mem' (b + 1) j = mem (o + 1) j) ∧ (∀ c j, 3 ≤ c → c ≤ 5 → j < 250 → mem' (b + c) j = mem (o + c) j) ∧ (mem' (b + 6) 2 = mem (o + 6) 2 ∧ mem' (b + 6) 3 = mem (o + 6) 3) ∧ (∀ c j, 7 ≤ c → c ≤ 8 → j < 16 → mem' (b + c) j = mem (o + c) j) ∧ (mem' (b + 9) 1 = mem (o + 9) 1 ∧ mem' (b + 9) 2 = mem (o + 9) 2 ∧ mem' (b + 9) 4 = mem (o + 9) 4 ∧ mem' (b + 9) 6 = mem (o + 9) 6) ∧ (∀ j, j < 24 → mem' (b + 10) j = mem (o + 10) j) ∧ (∀ j, j < 256 → mem' (b + 11) j = mem (o + 11) j) ∧ (∀ j, j < 32 → mem' (b + 12) j = mem (o + 12) j) ∧ (∀ j, j < 9 → mem' (b + 14) j = mem (o + 14) j) ∧ mem' (b + 15) 4 = mem (o + 15) 4 ∧ (∀ (c j : Nat), 16 ≤ c → c ≤ 19 → (j : Int) < mem (o + 15) 4 → mem' (b + c) j = mem (o + c) j) ∧ (mem' b 6 = mem o 6 ∧ mem' b 7 = mem o 7 ∧ mem' b 8 = mem o 8)
theorem R_cp_eq {mem : ja_M} {b o : Nat} (hbo : b + 20 ≤ o ∨ o + 20 ≤ b) (hz : 0 ≤ mem (o + 15) 4 ∧ mem (o + 15) 4 ≤ 24) : R_eq (R_cp mem b o) b mem o := by
  have hx : ∀ q, q ≠ b → q < b + 15 → R_cp mem b o q = R_c5 mem b o q := fun q a1 a2 => by
    unfold R_cp R_c6
    rw [ja_up_row a1, ja_up_row a1, ja_up_row a1, A_all_o (by omega), ja_up_row (by omega)]
  have o1 : ∀ q, q ≠ b + 1 → R_c1 mem b o q = mem q := fun q a1 => by
    unfold R_c1
    exact S_cp_o a1
  have o2 : ∀ q, q ≠ b + 1 → (q < b + 3 ∨ b + 6 ≤ q) → R_c2 mem b o q = mem q := fun q a1 a2 => by
    unfold R_c2
    rw [F_cpy_o (by omega), o1 q a1]
  have o3 : ∀ q, (q < b + 1 ∨ b + 9 ≤ q) → R_c3 mem b o q = mem q := fun q a1 => by
    unfold R_c3
    rw [T_cp_o (by omega), o2 q (by omega) (by omega)]
  have o4 : ∀ q, (q < b + 1 ∨ b + 14 ≤ q) → R_c4 mem b o q = mem q := fun q a1 => by
    unfold R_c4
    rw [P_cp2_o (by omega), o3 q (by omega)]
  have r2 : ∀ q, q ≠ b → b + 2 ≤ q → q < b + 6 → R_cp mem b o q = R_c2 mem b o q := fun q a0 a1 a2 => by
    rw [hx q a0 (by omega)]
    unfold R_c5 R_c4 R_c3
    rw [C_cp_o (by omega), P_cp2_o (by omega), T_cp_o (by omega)]
  have r6 : ∀ q, b + 6 ≤ q → q < b + 9 → R_cp mem b o q = R_c3 mem b o q := fun q a1 a2 => by
    rw [hx _ (by omega) (by omega)]
    unfold R_c5 R_c4
    rw [C_cp_o (by omega), P_cp2_o (by omega)]
  have r9 : ∀ q, b + 9 ≤ q → q < b + 14 → R_cp mem b o q = R_c4 mem b o q := fun q a1 a2 => by
    rw [hx _ (by omega) (by omega)]
    unfold R_c5
    rw [C_cp_o (by omega)]
  have ha : ∀ q, b + 15 ≤ q → R_cp mem b o q = R_c6 mem b o q := fun q a1 => by
    unfold R_cp
    rw [ja_up_row (by omega), ja_up_row (by omega), ja_up_row (by omega)]
  have hA6 : R_c6 mem b o = A_all (ja_up (R_c5 mem b o) (b + 15) 4 0) (b + 15) (o + 15) (mem (o + 15) 4).toNat := by
    unfold R_c6
    rw [R_c5_o (by omega)]
  have hIs := A_all_is (mem := ja_up (R_c5 mem b o) (b + 15) 4 0) (a := b + 15) (o := o + 15) (by rw [ja_up_s]) (by omega) (mem (o + 15) 4).toNat (by omega)
  obtain ⟨i4, ij⟩ := hIs
  have m5 : ∀ q, q ≠ b + 15 → (q < b + 1 ∨ b + 15 ≤ q) → ja_up (R_c5 mem b o) (b + 15) 4 0 q = mem q := fun q a1 a2 => by rw [ja_up_row a1, R_c5_o (by omega)]
  refine ⟨fun j hj => ?_, fun c j c1 c2 hj => ?_, ⟨?_, ?_⟩, fun c j c1 c2 hj => ?_, ⟨?_, ?_, ?_, ?_⟩, fun j hj => ?_, fun j hj => ?_, fun j hj => ?_, fun j hj => ?_, ?_, fun c j c1 c2 hj => ?_, ⟨?_, ?_, ?_⟩⟩
  · rw [hx _ (by omega) (by omega)]
    unfold R_c5 R_c4 R_c3 R_c2 R_c1
    rw [C_cp_o (by omega), P_cp2_o (by omega), T_cp_o (by omega), F_cpy_o (by omega), S_cp_s hj]
  · rw [r2 _ (by omega) (by omega) (by omega)]
    unfold R_c2 F_cpy
    rcases (show c = 3 ∨ c = 4 ∨ c = 5 by omega) with rfl | rfl | rfl
    · rw [ja_cp_o _ (by omega), ja_cp_o _ (by omega), show b + 3 = b + 2 + 1 by omega, ja_cp_i hj, o1 _ (by omega)]
    · rw [ja_cp_o _ (by omega), show b + 4 = b + 2 + 2 by omega, ja_cp_i hj, ja_cp_o _ (by omega), o1 _ (by omega)]
    · rw [show b + 5 = b + 2 + 3 by omega, ja_cp_i hj, ja_cp_o _ (by omega), ja_cp_o _ (by omega), o1 _ (by omega)]
  · rw [r6 _ (by omega) (by omega)]
    unfold R_c3 T_cp
    rw [ja_up_j (by omega), ja_up_s, o2 _ (by omega) (by omega)]
  · rw [r6 _ (by omega) (by omega)]
    unfold R_c3 T_cp
    rw [ja_up_s, o2 _ (by omega) (by omega)]
  · rw [r6 _ (by omega) (by omega)]
    unfold R_c3 T_cp
    rcases (show c = 7 ∨ c = 8 by omega) with rfl | rfl
    · rw [ja_up_a (by omega), ja_up_a (by omega), ja_cp_o _ (by omega), show b + 7 = b + 6 + 1 by omega, ja_cp_i hj, o2 _ (by omega) (by omega)]
    · rw [ja_up_a (by omega), ja_up_a (by omega), show b + 8 = b + 6 + 2 by omega, ja_cp_i hj, ja_cp_o _ (by omega), o2 _ (by omega) (by omega)]
  · rw [r9 _ (by omega) (by omega)]
    unfold R_c4 P_cp2
    rw [o3 (o + 9) (by omega), ja_up_j (by omega), ja_cp_o _ (by omega), ja_up_j (by omega), ja_cp_o _ (by omega), ja_up_j (by omega), ja_up_s]
  · rw [r9 _ (by omega) (by omega)]
    unfold R_c4 P_cp2
    rw [o3 (o + 9) (by omega), ja_up_j (by omega), ja_cp_o _ (by omega), ja_up_j (by omega), ja_cp_o _ (by omega), ja_up_s]
  · rw [r9 _ (by omega) (by omega)]
    unfold R_c4 P_cp2
    rw [o3 (o + 9) (by omega), ja_up_j (by omega), ja_cp_o _ (by omega), ja_up_s]
  · rw [r9 _ (by omega) (by omega)]
    unfold R_c4 P_cp2
    rw [o3 (o + 9) (by omega), ja_up_s]
  · rw [r9 _ (by omega) (by omega)]
    unfold R_c4 P_cp2
    rw [ja_up_a (by omega), ja_cp_o _ (by omega), ja_up_a (by omega), ja_cp_o _ (by omega), ja_up_a (by omega), ja_up_a (by omega), show b + 10 = b + 9 + 1 by omega, ja_cp_i hj, o3 _ (by omega)]
  · rw [r9 _ (by omega) (by omega)]
    unfold R_c4 P_cp2
    rw [ja_up_a (by omega), ja_cp_o _ (by omega), ja_up_a (by omega), show b + 11 = b + 9 + 2 by omega, ja_cp_i hj, ja_up_a (by omega), ja_up_a (by omega), ja_cp_o _ (by omega), o3 _ (by omega)]
  · rw [r9 _ (by omega) (by omega)]
    unfold R_c4 P_cp2
    rw [ja_up_a (by omega), show b + 12 = b + 9 + 3 by omega, ja_cp_i hj, ja_up_a (by omega), ja_cp_o _ (by omega), ja_up_a (by omega), ja_up_a (by omega), ja_cp_o _ (by omega), o3 _ (by omega)]
  · rw [hx _ (by omega) (by omega)]
    unfold R_c5
    rw [C_cp_s hj, o4 _ (by omega)]
  · rw [ha _ (by omega), hA6, i4]
    omega
  · obtain ⟨e1, e2, e3, e4⟩ := ij j (by omega)
    rw [ha _ (by omega), hA6]
    rcases (show c = 16 ∨ c = 17 ∨ c = 18 ∨ c = 19 by omega) with rfl | rfl | rfl | rfl
    · rw [show b + 16 = b + 15 + 1 by omega, e1, m5 _ (by omega) (by omega)]
    · rw [show b + 17 = b + 15 + 2 by omega, e2, m5 _ (by omega) (by omega)]
    · rw [show b + 18 = b + 15 + 3 by omega, e3, m5 _ (by omega) (by omega)]
    · rw [show b + 19 = b + 15 + 4 by omega, e4, m5 _ (by omega) (by omega)]
  · unfold R_cp
    rw [ja_up_j (by omega), ja_up_j (by omega), ja_up_s, R_c6_o (by omega)]
  · unfold R_cp
    rw [ja_up_j (by omega), ja_up_s, R_c6_o (by omega)]
  · unfold R_cp
    rw [ja_up_s, R_c6_o (by omega)]
-- a receiver to which nothing has arrived, with nothing scheduled: time passes
def Z_I (mem : ja_M) (b : Nat) : Prop := mem b 7 = 0 ∧ mem (b + 15) 4 = 0
theorem Z_tk {mem : ja_M} {b : Nat} (h : Z_I mem b) : R_tk mem b = ja_up (ja_up mem (b + 15) 4 0) b 6 (mem b 6 + 1) := by
  have e1 : R_due mem b = ja_up mem (b + 15) 4 0 := by
    unfold R_due
    rw [h.2]
    rfl
  have e2 : R_pl (R_due mem b) b = R_due mem b := by
    unfold R_pl
    rw [if_neg]
    intro q
    rw [e1, ja_up_a (show b ≠ b + 15 by omega)] at q
    exact q.1 h.1
  unfold R_tk
  rw [e2, e1, ja_up_a (show b ≠ b + 15 by omega)]
theorem Z_tk_v {mem : ja_M} {b q j : Nat} (h : Z_I mem b) (hq : ¬ (q = b ∧ j = 6)) : R_tk mem b q j = mem q j := by
  rw [Z_tk h, ja_up_x (by omega)]
  unfold ja_up
  split
  · rename_i hh
    rw [hh.1, hh.2, h.2]
  · rfl
theorem Z_tk_I {mem : ja_M} {b : Nat} (h : Z_I mem b) : Z_I (R_tk mem b) b := ⟨(Z_tk_v h (by omega)).trans h.1, (Z_tk_v h (by omega)).trans h.2⟩
theorem Z_adv {mem : ja_M} {b : Nat} (h : Z_I mem b) : ∀ k, Z_I (B_adv mem b k) b ∧ ∀ q j, ¬ (q = b ∧ j = 6) → B_adv mem b k q j = mem q j
  | 0 => ⟨h, fun _ _ _ => rfl⟩
  | k + 1 => by
    obtain ⟨i1, i2⟩ := Z_adv h k
    exact ⟨Z_tk_I i1, fun q j hq => (Z_tk_v i1 hq).trans (i2 q j hq)⟩
theorem Z_gap {b : Nat} {c : Int} : ∀ (r i : Nat) (m : ja_M), Z_I m b → m (b + 14) 2 ≤ c → (B_gap b c r i m).1 = -1004
  | 0, _, _, _, _ => rfl
  | r + 1, i, m, h, hc => by
    have e := Z_tk_v (q := b + 14) (j := 2) h (by omega)
    simp only [B_gap]
    rw [if_neg (by omega)]
    exact Z_gap r (i + 1) _ (Z_tk_I h) (by omega)
theorem Z_fra {b : Nat} {x : Int} : ∀ (r i : Nat) (m : ja_M), Z_I m b → m (b + 9) 6 ≤ x → (B_fra b x r i m).1 = -1004
  | 0, _, _, _, _ => rfl
  | r + 1, i, m, h, hc => by
    have e := Z_tk_v (q := b + 9) (j := 6) h (by omega)
    simp only [B_fra]
    rw [if_neg (by omega)]
    exact Z_fra r (i + 1) _ (Z_tk_I h) (by omega)
-- the reference
def Z_J (v : Nat → Int) : Prop := v 10 < 0 ∧ v 25 = 0
theorem Z_t1 {v : Nat → Int} (h : Z_J v) : N_t1 v = ja_rs (ja_rs v 25 0) 27 0 := by
  unfold N_t1 N_as
  rw [h.2]
  rfl
theorem Z_on {v : Nat → Int} (h : Z_J v) : ¬ N_on (N_t1 v) := by
  intro q
  have q1 := q.1
  rw [Z_t1 h, ja_rs_n (by omega), ja_rs_n (by omega)] at q1
  have := h.1
  omega
theorem Z_ti {v : Nat → Int} (h : Z_J v) : N_ti v = ja_rs (ja_rs (ja_rs v 25 0) 27 0) 9 (v 9 + 1) := by
  unfold N_ti N_pl
  rw [if_neg (Z_on h), Z_t1 h, ja_rs_n (show (9 : Nat) ≠ 27 by omega), ja_rs_n (show (9 : Nat) ≠ 25 by omega)]
theorem Z_to {v : Nat → Int} (h : Z_J v) : N_to v = 0 := by
  unfold N_to
  rw [if_neg (fun q => Z_on h q.1)]
theorem Z_ti_v {v : Nat → Int} {j : Nat} (h : Z_J v) (h9 : j ≠ 9) (h27 : j ≠ 27) : N_ti v j = v j := by
  rw [Z_ti h, ja_rs_n h9, ja_rs_n h27]
  unfold ja_rs
  split
  · rename_i hh
    rw [hh, h.2]
  · rfl
theorem Z_ti_27 {v : Nat → Int} (h : Z_J v) : N_ti v 27 = 0 := by rw [Z_ti h, ja_rs_n (by omega), ja_rs_s]
theorem Z_ti_J {v : Nat → Int} (h : Z_J v) : Z_J (N_ti v) := ⟨by rw [Z_ti_v h (by omega) (by omega)]; exact h.1, by rw [Z_ti_v h (by omega) (by omega)]; exact h.2⟩
theorem Z_ad {v : Nat → Int} (h : Z_J v) : ∀ k, Z_J (N_ad v k)
  | 0 => h
  | k + 1 => Z_ti_J (Z_ad h k)
theorem Z_at {v : Nat → Int} (h : Z_J v) : ∀ k, N_at v k = 0
  | 0 => rfl
  | k + 1 => by
    simp only [N_at]
    rw [Z_at h k, Z_to (Z_ad h k)]
    rfl
theorem Z_ag {v : Nat → Int} (h : Z_J v) : ∀ k, N_ag v k = 0
  | 0 => rfl
  | k + 1 => by
    simp only [N_ag]
    rw [Z_ag h k, Z_ti_27 (Z_ad h k)]
    rfl
theorem Z_xg : ∀ (r i : Nat) (v : Nat → Int), Z_J v → N_xg r i v = -1004
  | 0, _, _, _ => rfl
  | r + 1, i, v, h => by
    simp only [N_xg]
    rw [Z_ti_27 h, if_neg (by omega)]
    exact Z_xg r (i + 1) _ (Z_ti_J h)
theorem Z_xf {x : Int} : ∀ (r i : Nat) (v : Nat → Int), Z_J v → v 11 ≤ x → N_xf x r i v = -1004
  | 0, _, _, _, _ => rfl
  | r + 1, i, v, h, hx => by
    have e := Z_ti_v (j := 11) h (by omega) (by omega)
    simp only [N_xf]
    rw [if_neg (by omega)]
    exact Z_xf r (i + 1) _ (Z_ti_J h) (by omega)
theorem N_v0_J : Z_J N_v0 := ⟨by decide, by decide⟩
end
section
-- answers of the fresh objects
section
variable {lay : ja_Y} {mem : ja_M} {n y m : Nat}
theorem Z_bg (h : L_fr lay mem n y m) : ¬ B_bg mem y := by
  intro q
  have e1 := h.R.2 (y + 1) 7 (by omega) (by omega) (by omega)
  have e2 := h.R.2 (y + 1 + 15) 4 (by omega) (by omega) (by omega)
  unfold B_bg at q
  omega
theorem Z_bgN : ¬ N_bg N_v0 := by
  intro q
  have e1 : N_v0 10 = -1 := rfl
  have e2 : N_v0 25 = 0 := rfl
  unfold N_bg at q
  omega
theorem Z_s (h : L_fr lay mem n y m) : ∀ j, j < 9 → mem (y + 1 + 1) j = N_v0 j := by
  obtain ⟨s0, s1, s2, s3, s4, s5, s6, s7, s8⟩ := h.R.1
  intro j hj
  rcases (show j = 0 ∨ j = 1 ∨ j = 2 ∨ j = 3 ∨ j = 4 ∨ j = 5 ∨ j = 6 ∨ j = 7 ∨ j = 8 by omega) with rfl | rfl | rfl | rfl | rfl | rfl | rfl | rfl | rfl
  · exact s0
  · exact s1
  · exact s2
  · exact s3
  · exact s4
  · exact s5
  · exact s6
  · exact s7
  · exact s8
theorem Z_z (h : L_fr lay mem n y m) {c j : Nat} (h0 : c < 20) (h1 : c ≠ 1) : mem (y + 1 + c) j = 0 := h.R.2 _ _ (by omega) (by omega) (by omega)
theorem Z_zz (h : L_fr lay mem n y m) {c d j : Nat} (h0 : c + d < 20) (h1 : c + d ≠ 1) : mem (y + 1 + c + d) j = 0 := h.R.2 _ _ (by omega) (by omega) (by omega)
theorem ja_wave_N {mem : ja_M} {s : Nat} {v : Nat → Int} (h : ∀ j, j < 9 → mem s j = v j) (x j : Int) : ja_wave mem s x j = N_wv v x j := by
  unfold ja_wave N_wv
  rw [h 0 (by omega), h 1 (by omega), h 2 (by omega)]
theorem ja_cov_N {mem : ja_M} {s : Nat} {v : Nat → Int} (h : ∀ j, j < 9 → mem s j = v j) (r k i j : Int) : ja_cov mem s r k i j = N_cv v r k i j := by
  unfold ja_cov N_cv ja_cells N_ar
  rw [h 3 (by omega), h 4 (by omega), Int.mul_comm k, Int.mul_comm j, Int.mul_comm i]
theorem ja_hasB_N {mem : ja_M} {s : Nat} {v : Nat → Int} (h : ∀ j, j < 9 → mem s j = v j) (k : Int) : ja_hasB mem s k ↔ N_hB v k := by
  unfold ja_hasB N_hB ja_cells N_ar
  rw [h 3 (by omega), h 4 (by omega)]
theorem ja_hasP_N {mem : ja_M} {s : Nat} {v : Nat → Int} (h : ∀ j, j < 9 → mem s j = v j) (r k i : Int) : ja_hasP mem s r k i ↔ N_hP v r k i := by
  unfold ja_hasP N_hP
  rw [ja_hasB_N h, h 3 (by omega), h 4 (by omega)]
  constructor
  · rintro ⟨a, b, c⟩
    exact ⟨a, b, by omega⟩
  · rintro ⟨a, b, c⟩
    exact ⟨a, b, by omega⟩
theorem ja_if {P Q : Prop} [Decidable P] [Decidable Q] {a b c d : Int} (h : P ↔ Q) (h1 : Q → a = c) (h2 : b = d) : (if P then a else b) = if Q then c else d := by
  by_cases hq : Q
  · rw [if_pos hq, if_pos (h.mpr hq)]
    exact h1 hq
  · rw [if_neg hq, if_neg (fun p => hq (h.mp p))]
    exact h2
theorem B_par_in {mem : ja_M} {s : Nat} {r k i p : Int} : ∀ c, ja_in (B_par mem s r k i p c)
  | 0 => ⟨by simp [B_par], by simp [B_par]⟩
  | c + 1 => by
    simp only [B_par]
    split
    · exact B_par_in c
    · exact ja_range _
theorem B_par_N {mem : ja_M} {s : Nat} {v : Nat → Int} (h : ∀ j, j < 9 → mem s j = v j) (r k i p : Int) : ∀ c, B_par mem s r k i p c = N_ps v r k i p c
  | 0 => rfl
  | c + 1 => by
    have hin := @B_par_in mem s r k i p c
    simp only [B_par, N_ps]
    rw [← B_par_N h r k i p c, ja_cov_N h, ja_wave_N h]
    by_cases h9 : 999 < N_cv v r k i c
    · rw [if_pos h9, if_pos h9, Z_xor0 hin]
    · rw [if_neg h9, if_neg h9]
theorem Z_frk {b : Nat} (h : Z_R mem b) : ∀ (k : Nat) (x : Int), F_fr mem (b + 1) (b + 2) x k = x
  | 0, _ => rfl
  | k + 1, x => by
    simp only [F_fr]
    rw [if_pos (Z_st h x)]
theorem Z_fok {x : Int} (hx : 0 ≤ x ∧ x ≤ 999) : ∀ k, N_fo N_v0 x k = x
  | 0 => rfl
  | k + 1 => by
    simp only [N_fo]
    rw [if_neg (Z_kn x hx)]
theorem Z_lvN : N_lv N_v0 0 = 0 := by
  unfold N_lv
  rw [Z_fok ⟨by omega, by omega⟩]
  decide
theorem Z_lvR (h : L_fr lay mem n y m) : R_lv mem (y + 1) (mem (y + 1 + 9) 6) = 0 := by
  unfold R_lv
  rw [Z_frk h.R, Int.sub_self, Int.mul_zero]
theorem Z_tgR (h : L_fr lay mem n y m) : R_tg mem (y + 1) = 8 := by
  unfold R_tg T_spr
  rw [Z_z h (by omega) (by omega), if_pos rfl, Z_s h 7 (by omega)]
  rfl
theorem Z_tgN : N_tg N_v0 = 8 := by decide
-- the text
theorem Z_HO (h : L_fr lay mem n y m) : mem (y + 42) 1 = 0 := h.2.2.2.2.2.2.1 _ _ (by omega) (by omega) (by omega) (by omega)
theorem Z_rdB (h : L_fr lay mem n y m) : (B_rd mem y).1 = -1004 ∧ (B_rd mem y).2 = ja_up (ja_up mem (y + 44) 4 0) (y + 42) 2 0 := by
  unfold B_rd
  rw [Z_HO h]
  have e : ja_up (ja_up mem (y + 44) 4 0) (y + 42) 2 0 (y + 42) 2 = 0 := ja_up_s _ _ _ _
  refine ⟨?_, rfl⟩
  show (if ja_up (ja_up mem (y + 44) 4 0) (y + 42) 2 0 (y + 42) 2 = 0 then (-1004 : Int) else 0) = -1004
  rw [e, if_pos rfl]
theorem Z_scB (h : L_fr lay mem n y m) : (B_sc mem y).1 = 0 := by
  obtain ⟨h1, h2⟩ := Z_rdB h
  have e4 : (B_rd mem y).2 (y + 44) 4 = 0 := by rw [h2, ja_up_a (by omega), ja_up_s]
  have e5 : (B_rd mem y).2 (y + 1 + 15) 4 = 0 := by rw [h2, ja_up_a (by omega), ja_up_a (by omega)]; exact Z_z h (by omega) (by omega)
  unfold B_sc
  rw [if_pos h1, e4, e5]
  rfl
theorem Z_rdN {G : ja_M} (h : G m 5 = 0) : N_rdt G m = (1, 0, 0, G (m + 8)) := by
  unfold N_rdt
  rw [h]
  simp only [N_tx]
  rw [if_neg (by omega)]
theorem Z_srN {G : ja_M} (h : G m 5 = 0) : N_sr N_v0 (N_rdt G m) = 0 := by
  rw [Z_rdN h]
  unfold N_sr
  show (if (1 : Int) = 0 then (-1003 : Int) else if N_cas N_v0 (G (m + 8)) 0 0 = 0 then -1001 else if 24 < N_v0 25 + 0 then -1002 else 0) = 0
  rw [if_neg (show ¬ (1 : Int) = 0 by decide), if_neg (show ¬ N_cas N_v0 (G (m + 8)) 0 0 = 0 from (by decide : ¬ (1 : Int) = 0)), if_neg (show ¬ 24 < N_v0 25 + 0 by decide)]
theorem Z_cpI (h : L_fr lay mem n y m) : Z_I (R_cp mem (y + 21) (y + 1)) (y + 21) ∧ (R_cp mem (y + 21) (y + 1)) (y + 21 + 9) 6 = 0 := by
  have hz := Z_z h (c := 15) (j := 4) (by omega) (by omega)
  obtain ⟨e1, e2, e3, e4, e5, e6, e7, e8, e9, e10, e11, e12⟩ := R_cp_eq (mem := mem) (b := y + 21) (o := y + 1) (by omega) (by omega)
  refine ⟨⟨?_, ?_⟩, ?_⟩
  · rw [e12.2.1]
    exact Z_z h (c := 0) (by omega) (by omega)
  · rw [e10, hz]
  · rw [e5.2.2.2]
    exact Z_z h (by omega) (by omega)
theorem Z_I1 (h : L_fr lay mem n y m) : Z_I mem (y + 1) := ⟨Z_z h (c := 0) (by omega) (by omega), Z_z h (by omega) (by omega)⟩
-- the checksum
theorem B_cf_c {h : Int64} {g g' : Nat → Int} : ∀ k : Nat, (∀ j, j < k → g j = g' j) → B_cf h g k = B_cf h g' k
  | 0, _ => rfl
  | k + 1, e => by
    rw [B_cf_s, B_cf_s, B_cf_c k (fun j hj => e j (by omega)), e k (by omega)]
theorem Z_ou (h : L_fr lay mem n y m) (k : Int) : B_ou mem y k = N_ou N_v0 k := by
  unfold B_ou N_ou
  rw [Z_z h (c := 9) (j := 4) (by omega) (by omega), show N_v0 12 = 0 from rfl]
  refine ja_if Iff.rfl (fun hk => ?_) rfl
  rw [if_pos (by omega), if_pos (by omega)]
theorem Z_ki (h : L_fr lay mem n y m) (k : Int) : B_ki mem y k = N_ki N_v0 k := by
  unfold B_ki N_ki
  rw [Z_z h (c := 9) (j := 6) (by omega) (by omega), show N_v0 11 = 0 from rfl]
  refine ja_if Iff.rfl (fun hk => ?_) rfl
  rw [if_pos (by omega), if_pos (by omega)]
theorem Z_ck (h : L_fr lay mem n y m) : B_ck mem y = N_ck N_v0 := by
  have z9 : ∀ j, mem (y + 1 + 9) j = 0 := fun j => Z_z h (by omega) (by omega)
  have z14 : ∀ j, mem (y + 1 + 14) j = 0 := fun j => Z_z h (by omega) (by omega)
  have z0 : ∀ j, mem (y + 1) j = 0 := fun j => Z_z h (c := 0) (by omega) (by omega)
  have k2 : B_k2 mem y = N_k6 N_v0 := by
    have e7 : (if (0 : Int) = 0 then (-1004 : Int) else 0) = -1004 := rfl
    have e8 : (if (999 : Int) < 0 then (-1004 : Int) else 0) = 0 := rfl
    unfold B_k2 B_k1
    rw [z0, z0, z0, Z_tgR h, Z_lvR h, Z_z h (c := 6) (j := 2) (by omega) (by omega), Z_z h (c := 15) (j := 4) (by omega) (by omega)]
    simp only [B_cf, B_tk, z9, z14]
    unfold N_k6 N_k5 N_k4 N_k3 N_k2 N_k1
    rw [Z_tgN]
    simp only [N_v0_z (show 9 ≤ 11 by omega) (show 11 ≠ 10 by omega)]
    rw [Z_lvN]
    rfl
  unfold B_ck N_ck N_k8 N_k7
  have e3 : B_k3 mem y = B_cf (N_k6 N_v0) (fun k => N_ou N_v0 ((k : Int) + 1)) 64 := by
    unfold B_k3
    rw [k2]
    exact B_cf_c 64 (fun j _ => Z_ou h _)
  have e4 : B_k4 mem y = B_cf (B_cf (N_k6 N_v0) (fun k => N_ou N_v0 ((k : Int) + 1)) 64) (fun k => N_ki N_v0 ((k : Int) + 1)) 16 := by
    unfold B_k4
    rw [e3]
    exact B_cf_c 16 (fun j _ => Z_ki h _)
  rw [e4]
  refine B_cf_c 100 (fun j hj => ?_)
  show B_ss mem y (j : Int) = N_v0 (30 + (j : Int)).toNat
  unfold B_ss
  rw [Z_st h.R, N_v0_z (by omega) (by omega)]
  split <;> first | rfl | (rename_i hh; exact absurd (show B_isF (j : Int) from ⟨by omega, by omega⟩) hh)
end

theorem ja_LM_c {lay lay' : ja_Y} {m : Nat} (h : ∀ q, m ≤ q → q < m + 9 → lay' q = lay q) (hM : ja_LM lay m) : ja_LM lay' m := by
  unfold ja_LM
  rw [h m (by omega) (by omega), h (m + 1) (by omega) (by omega), h (m + 2) (by omega) (by omega), h (m + 3) (by omega) (by omega), h (m + 4) (by omega) (by omega), h (m + 5) (by omega) (by omega), h (m + 6) (by omega) (by omega), h (m + 7) (by omega) (by omega), h (m + 8) (by omega) (by omega)]
  exact hM
/-- a boolean argument out of the script -/
theorem r_bool {C : ja_C} {own : String} {cc : ByteArray} {nl : Nat} {rm : Room} {cells slots n pc : Nat} {lay : ja_Y} {mem : ja_M} {ls : List (Option Value)} {st : List Value} (F : ja_F C own cc nl rm) {x : Int} (hx : ja_in x) {o1 o2 : Int} {t1 t2 : Nat} (d1 : decode cc pc = .ok (.ifCond .eq o1, 3)) (h1 : (pc : Int) + o1 = (t1 : Int)) (d2 : decode cc (pc + 3) = .ok (.iconst 1, 1)) (d3 : decode cc (pc + 3 + 1) = .ok (.goto o2, 3)) (h3 : ((pc + 3 + 1 : Nat) : Int) + o2 = (t2 : Int)) (d4 : decode cc t1 = .ok (.iconst 0, 1)) (h4 : t1 + 1 = t2) (k : ja_W C cells slots lay mem n t2 ls (.int (ja_I (ja_b (¬ x = 0))) :: st)) : ja_W C cells slots lay mem n pc ls (.int (ja_I x) :: st) := by
  refine r_if_eq F hx d1 rfl h1 (fun h => ?_) (fun h => ?_)
  · refine r_iconst F d4 h4 ?_
    have e : ja_b (¬ x = 0) = 0 := if_neg (fun q => q h)
    rw [e] at k
    exact k
  · refine r_iconst F d2 rfl (r_goto F d3 h3 ?_)
    have e : ja_b (¬ x = 0) = 1 := if_pos h
    rw [e] at k
    exact k
theorem J_and63 (x : Int32) : 0 ≤ (x &&& ja_I 63).toInt ∧ (x &&& ja_I 63).toInt ≤ 63 := by
  have h : (x &&& ja_I 63).toInt = ((x.toBitVec &&& 63#32).toNat : Int) := by
    have h1 : (x &&& ja_I 63).toBitVec = x.toBitVec &&& 63#32 := by rw [Int32.toBitVec_and]; rfl
    show (x &&& ja_I 63).toBitVec.toInt = _
    rw [h1, BitVec.toInt_eq_toNat_of_lt]
    rw [BitVec.toNat_and]
    have := @Nat.and_le_right x.toBitVec.toNat (63#32).toNat
    have e : (63#32).toNat = 63 := rfl
    omega
  rw [h, BitVec.toNat_and]
  have := @Nat.and_le_right x.toBitVec.toNat (63#32).toNat
  have e : (63#32).toNat = 63 := rfl
  omega
end
section
-- THE INVARIANT OF A RUN OF CALLS, with a tie S between a receiver and the reference's row
theorem ja_RO.mono {mem : ja_M} {b : Nat} {t t' : Int} (h : ja_RO mem b t) (ht : t ≤ t') : ja_RO mem b t' := by
  obtain ⟨g1, g2, g3, g4, g5, g6, g7, g8, g9, g10, g11, g12⟩ := h
  exact ⟨g1, g2, g3, g4, g5, ⟨g6.1, by omega⟩, g7, ⟨g8.1, by omega⟩, g9, g10, g11, g12⟩
theorem N_O.mono {v : Nat → Int} {t t' : Int} (h : N_O v t) (ht : t ≤ t') : N_O v t' := by
  obtain ⟨g1, ⟨o1, o2, o3, o4, o5, o6, o7⟩, g3⟩ := h
  exact ⟨g1, ⟨by omega, by omega, o3, o4, o5, o6, o7⟩, g3⟩
theorem N_in_c {v w : Nat → Int} (h : ∀ j, j < 2484 → w j = v j) (hR : N_R v) : N_R w := fun j hj => by rw [h j hj]; exact hR j hj
theorem N_O.c {v w : Nat → Int} {t : Int} (h : ∀ j, j < 2484 → w j = v j) (hO : N_O v t) : N_O w t := by
  obtain ⟨g1, g2, g3⟩ := hO
  have hC := g1.C
  refine ⟨N_in_c h g1, ?_, ?_⟩
  · rw [h 9 (by omega), h 10 (by omega), h 11 (by omega), h 12 (by omega), h 13 (by omega), h 14 (by omega), h 21 (by omega), h 22 (by omega), h 23 (by omega)]
    exact g2
  · intro j j0 jl
    rw [h 25 (by omega)] at jl
    have hj := g3 j j0 jl
    have hs : N_ss v w := fun q hq => h q (by omega)
    rw [h (2388 + 4 * j).toNat (by omega), h (2388 + 4 * j + 1).toNat (by omega), h (2388 + 4 * j + 2).toNat (by omega)]
    exact ⟨hj.1, hj.2.1, fun q => hs.hP.mpr (hj.2.2 q)⟩
abbrev R_bg (mem : ja_M) (b : Nat) : Prop := ¬ mem b 7 = 0 ∨ 0 < mem (b + 15) 4
abbrev S_T : Type := ja_M → Nat → (Nat → Int) → Prop
/-- the text of both -/
def L_x (mem : ja_M) (y : Nat) (G : ja_M) (m : Nat) : Prop := mem (y + 42) 1 = G m 5 ∧ ∀ j : Nat, (j : Int) < G m 5 → mem (y + 42 + 1) j = G (m + 5) j
def S_cg (S : S_T) : Prop := ∀ (mem mem' : ja_M) (b : Nat) (v v' : Nat → Int), (∀ q, b ≤ q → q < b + 20 → mem' q = mem q) → (∀ j, j < 2484 → v' j = v j) → S mem b v → S mem' b v'
def S_cy (S : S_T) : Prop := ∀ (mem mem' : ja_M) (b o : Nat) (v : Nat → Int) (t : Int), ja_RO mem o t → R_eq mem' b mem o → S mem o v → S mem' b v
def S_s1 (S : S_T) : Prop := ∀ (mem : ja_M) (b : Nat) (v : Nat → Int) (t : Int) (P : Prop) [Decidable P] (j : Nat) (z : Int), j < 6 → ja_RO mem b t → N_O v t → S mem b v → S (if P ∧ ¬ R_bg mem b then ja_up mem (b + 1) j z else mem) b (if P ∧ ¬ N_bg v then ja_rs v j z else v)
def S_s2 (S : S_T) : Prop := ∀ (mem : ja_M) (b : Nat) (v : Nat → Int) (t : Int) (P : Prop) [Decidable P] (j i : Nat) (z w : Int), j < 6 → i < 6 → ja_RO mem b t → N_O v t → S mem b v → S (if P ∧ ¬ R_bg mem b then ja_up (ja_up mem (b + 1) j z) (b + 1) i w else mem) b (if P ∧ ¬ N_bg v then ja_rs (ja_rs v j z) i w else v)
def S_s3 (S : S_T) : Prop := ∀ (mem : ja_M) (b : Nat) (v : Nat → Int) (P : Prop) [Decidable P] (j : Nat) (z : Int), 6 ≤ j → j < 9 → S mem b v → S (if P then ja_up mem (b + 1) j z else mem) b (if P then ja_rs v j z else v)
def S_af (S : S_T) : Prop := ∀ (mem : ja_M) (b : Nat) (v : Nat → Int) (t x : Int), ja_RO mem b t → N_O v t → t ≤ 900000 → (0 ≤ x ∧ x ≤ 999) → S mem b v → S (R_af mem b x) b (N_av v x)
def S_ap (S : S_T) : Prop := ∀ (mem : ja_M) (b : Nat) (v : Nat → Int) (t r k i : Int), ja_RO mem b t → N_O v t → t ≤ 900000 → (0 ≤ r ∧ r ≤ 1) → S mem b v → S (if ja_hasP mem (b + 1) r k i then R_ap mem b r k i else mem) b (if N_hP v r k i then N_qv v r k i else v)
def S_tk (S : S_T) : Prop := ∀ (mem : ja_M) (b : Nat) (v : Nat → Int) (t : Int), ja_RO mem b t → N_O v t → t ≤ 900000 → S mem b v → S (R_tk mem b) b (N_ti v)
def S_sc (S : S_T) : Prop := ∀ (mem G : ja_M) (y m : Nat) (v : Nat → Int) (t : Int), ja_RO mem (y + 1) t → ja_HO mem (y + 42) → ja_AO mem (y + 44) → N_O v t → N_TO G m → L_x mem y G m → S mem (y + 1) v → S (B_sc mem y).2 (y + 1) (N_sw v (N_rdt G m))
def S_in (S : S_T) : Prop := ∀ (mem : ja_M) (b : Nat), Z_R mem b → S mem b N_v0
/-- what a tie must bear -/
def S_ok (S : S_T) : Prop := S_cg S ∧ S_cy S ∧ S_s1 S ∧ S_s2 S ∧ S_s3 S ∧ S_af S ∧ S_ap S ∧ S_tk S ∧ S_sc S ∧ S_in S
def L_c (lay : ja_Y) (mem : ja_M) (n y : Nat) (sl : Nat → Option Nat) (t : Int) : Prop := ja_LB lay y sl ∧ ja_BO mem y sl t ∧ y + 58 ≤ n ∧ (∀ i o, i < 2 → sl i = some o → y + 58 ≤ o ∧ o + 20 ≤ n) ∧ ∀ o0 o1, sl 0 = some o0 → sl 1 = some o1 → o0 + 20 ≤ o1 ∨ o1 + 20 ≤ o0
def L_r (lay : ja_Y) (mem : ja_M) (m : Nat) (t : Int) : Prop := ja_LM lay m ∧ N_O (mem (m + 1)) t ∧ N_TO mem m ∧ (∀ j, 0 ≤ mem (m + 4) j ∧ mem (m + 4) j ≤ 1) ∧ ∀ s : Nat, s < 2 → mem (m + 4) s = 1 → N_O (fun j => mem (m + 3) (2484 * s + j)) t
def L_s (S : S_T) (mem : ja_M) (y : Nat) (sl : Nat → Option Nat) : Prop := ∀ s : Nat, s < 2 → (sl s = none → mem (y + 49 + 4) s = 0) ∧ ∀ o, sl s = some o → mem (y + 49 + 4) s = 1 ∧ S mem o (fun j => mem (y + 49 + 3) (2484 * s + j))
def L_In (S : S_T) (lay : ja_Y) (mem : ja_M) (n y : Nat) (sl : Nat → Option Nat) (t : Int) : Prop := L_c lay mem n y sl t ∧ L_r lay mem (y + 49) t ∧ S mem (y + 1) (mem (y + 49 + 1)) ∧ L_x mem y mem (y + 49) ∧ L_s S mem y sl
-- the class's ranges
theorem ja_HO_c {mem M : ja_M} {x : Nat} (h0 : M x = mem x) (h1 : M (x + 1) = mem (x + 1)) (h : ja_HO mem x) : ja_HO M x := by
  unfold ja_HO
  rw [h0, h1]
  exact h
theorem BO_cg {mem M : ja_M} {y : Nat} {sl : Nat → Option Nat} {t t' : Int} (ht : t ≤ t') (h : ja_BO mem y sl t) (hf : ∀ q, y ≤ q → q < y + 49 → M q = mem q) (hs : ∀ i o q, i < 2 → sl i = some o → o ≤ q → q < o + 20 → M q = mem q) : ja_BO M y sl t' := by
  obtain ⟨h1, ⟨t2, h2⟩, h3, h4, h5⟩ := h
  exact ⟨ja_RO_all (fun q a b => hf q (by omega) (by omega)) (h1.mono ht), ⟨t2, ja_RO_all (fun q a b => hf q (by omega) (by omega)) h2⟩, ja_HO_c (hf _ (by omega) (by omega)) (hf _ (by omega) (by omega)) h3, ja_AO_c (fun q a b => hf q (by omega) (by omega)) h4, fun i o hi ho => ja_RO_all (fun q a b => hs i o q hi ho a b) ((h5 i o hi ho).mono ht)⟩
theorem BO_recv {mem M : ja_M} {y : Nat} {sl : Nat → Option Nat} {t t' : Int} (ht : t ≤ t') (h : ja_BO mem y sl t) (hs : ∀ i o, i < 2 → sl i = some o → y + 21 ≤ o) (hR : ja_RO M (y + 1) t') (hf : ∀ q, y + 21 ≤ q → M q = mem q) : ja_BO M y sl t' := by
  obtain ⟨h1, ⟨t2, h2⟩, h3, h4, h5⟩ := h
  exact ⟨hR, ⟨t2, ja_RO_all (fun q a b => hf q (by omega)) h2⟩, ja_HO_c (hf _ (by omega)) (hf _ (by omega)) h3, ja_AO_c (fun q a b => hf q (by omega)) h4, fun i o hi ho => ja_RO_all (fun q a b => hf q (by have := hs i o hi ho; omega)) ((h5 i o hi ho).mono ht)⟩
theorem BO_fore {mem M : ja_M} {y : Nat} {sl : Nat → Option Nat} {t t' : Int} (ht : t ≤ t') (h : ja_BO mem y sl t) (hs : ∀ i o, i < 2 → sl i = some o → y + 41 ≤ o) (hR : ∃ t2, ja_RO M (y + 21) t2) (hf : ∀ q, (q < y + 21 ∨ y + 41 ≤ q) → M q = mem q) : ja_BO M y sl t' := by
  obtain ⟨h1, -, h3, h4, h5⟩ := h
  exact ⟨ja_RO_all (fun q a b => hf q (by omega)) (h1.mono ht), hR, ja_HO_c (hf _ (by omega)) (hf _ (by omega)) h3, ja_AO_c (fun q a b => hf q (by omega)) h4, fun i o hi ho => ja_RO_all (fun q a b => hf q (by have := hs i o hi ho; omega)) ((h5 i o hi ho).mono ht)⟩
theorem BO_text {mem M : ja_M} {y : Nat} {sl : Nat → Option Nat} {t t' : Int} (ht : t ≤ t') (h : ja_BO mem y sl t) (hs : ∀ i o, i < 2 → sl i = some o → y + 49 ≤ o) (hR : ja_RO M (y + 1) t') (hH : ja_HO M (y + 42)) (hA : ja_AO M (y + 44)) (hf : ∀ q, ((y + 21 ≤ q ∧ q < y + 42) ∨ y + 49 ≤ q) → M q = mem q) : ja_BO M y sl t' := by
  obtain ⟨-, ⟨t2, h2⟩, -, -, h5⟩ := h
  exact ⟨hR, ⟨t2, ja_RO_all (fun q a b => hf q (by omega)) h2⟩, hH, hA, fun i o hi ho => ja_RO_all (fun q a b => hf q (by have := hs i o hi ho; omega)) ((h5 i o hi ho).mono ht)⟩
/-- the reference's other rows, behind a call -/
def N_rf (m : Nat) (G G' : ja_M) : Prop := (∀ q, q ≠ m → q ≠ m + 2 → q ≠ m + 6 → q ≠ m + 7 → q ≠ m + 8 → G' q = G q) ∧ G' m 5 = G m 5
theorem N_rf.rf {m : Nat} {G : ja_M} : N_rf m G G := ⟨fun _ _ _ _ _ _ => rfl, rfl⟩
theorem N_ge.f {m : Nat} {G G' : ja_M} (h : N_ge m G G') : N_rf m G G' := ⟨fun q _ _ a b _ => h q a b, by rw [h m (by omega) (by omega)]⟩
theorem N_gp.f {m : Nat} {G G' : ja_M} (h : N_gp m G G') : N_rf m G G' := ⟨fun q _ a b c _ => h q a b c, by rw [h m (by omega) (by omega) (by omega)]⟩
theorem N_tG.f {m : Nat} {G : ja_M} {p tl : Int} {T : Nat → Int} : N_rf m G (N_tG G m p tl T) := ⟨fun q a _ _ _ b => N_tG_o a b, N_tG_j (by omega) (by omega)⟩
/-- a step that leaves the text and the slots -/
theorem In_step {S : S_T} (hS : S_ok S) {lay : ja_Y} {mem : ja_M} {n y : Nat} {sl : Nat → Option Nat} {t : Int} (h : L_In S lay mem n y sl t) {M1 G' : ja_M} {v' : Nat → Int} (c1 : ∀ q, y + 49 ≤ q → M1 q = mem q) (c2 : M1 (y + 42) 1 = mem (y + 42) 1) (c3 : M1 (y + 42 + 1) = mem (y + 42 + 1)) (cB : ja_BO M1 y sl (t + 500)) (hG : N_rf (y + 49) M1 G') (hO : N_O v' (t + 500)) (hs : S M1 (y + 1) v') : L_In S lay (ja_rw G' (y + 49 + 1) v') n y sl (t + 500) := by
  obtain ⟨⟨a1, a2, a3, a4, a5⟩, ⟨b1, b2, b3, b4, b5⟩, hT, hx, hsl⟩ := h
  obtain ⟨cg, -⟩ := hS
  have f1 : ∀ q, q ≠ y + 49 → q ≠ y + 49 + 1 → q ≠ y + 49 + 2 → q ≠ y + 49 + 6 → q ≠ y + 49 + 7 → q ≠ y + 49 + 8 → ja_rw G' (y + 49 + 1) v' q = M1 q := fun q d0 d1 d2 d6 d7 d8 => by rw [ja_rw_n d1]; exact hG.1 q d0 d2 d6 d7 d8
  have f5 : ja_rw G' (y + 49 + 1) v' (y + 49) 5 = mem (y + 49) 5 := by rw [ja_rw_n (by omega), hG.2, c1 _ (by omega)]
  have k3 : ja_rw G' (y + 49 + 1) v' (y + 49 + 3) = mem (y + 49 + 3) := by rw [f1 _ (by omega) (by omega) (by omega) (by omega) (by omega) (by omega), c1 _ (by omega)]
  have k4 : ja_rw G' (y + 49 + 1) v' (y + 49 + 4) = mem (y + 49 + 4) := by rw [f1 _ (by omega) (by omega) (by omega) (by omega) (by omega) (by omega), c1 _ (by omega)]
  have k5 : ja_rw G' (y + 49 + 1) v' (y + 49 + 5) = mem (y + 49 + 5) := by rw [f1 _ (by omega) (by omega) (by omega) (by omega) (by omega) (by omega), c1 _ (by omega)]
  refine ⟨⟨a1, ?_, a3, a4, a5⟩, ⟨b1, ?_, ?_, ?_, ?_⟩, ?_, ⟨?_, ?_⟩, fun s hs2 => ⟨fun q => ?_, fun o q => ?_⟩⟩
  · exact BO_cg (by omega) cB (fun q d1 d2 => f1 q (by omega) (by omega) (by omega) (by omega) (by omega) (by omega)) (fun i o q hi ho d1 d2 => f1 q (by have := a4 i o hi ho; omega) (by have := a4 i o hi ho; omega) (by have := a4 i o hi ho; omega) (by have := a4 i o hi ho; omega) (by have := a4 i o hi ho; omega) (by have := a4 i o hi ho; omega))
  · rw [ja_rw_s]
    exact hO
  · unfold N_TO
    rw [f5, k5]
    exact b3
  · rw [k4]
    exact b4
  · rw [k3, k4]
    exact fun s d1 d2 => (b5 s d1 d2).mono (by omega)
  · rw [ja_rw_s]
    exact cg M1 _ (y + 1) v' v' (fun q d1 d2 => f1 q (by omega) (by omega) (by omega) (by omega) (by omega) (by omega)) (fun _ _ => rfl) hs
  · rw [f5, f1 _ (by omega) (by omega) (by omega) (by omega) (by omega) (by omega), c2]
    exact hx.1
  · rw [f5, k5, f1 _ (by omega) (by omega) (by omega) (by omega) (by omega) (by omega), c3]
    exact hx.2
  · rw [k4]
    exact (hsl s hs2).1 q
  · obtain ⟨e1, e2⟩ := (hsl s hs2).2 o q
    have ho := a4 s o hs2 q
    rw [k3, k4]
    exact ⟨e1, cg mem _ o _ _ (fun q d1 d2 => by rw [f1 q (by omega) (by omega) (by omega) (by omega) (by omega) (by omega), c1 q (by omega)]) (fun _ _ => rfl) e2⟩
-- ranges behind each call: setters
theorem RO_set {mem M : ja_M} {b : Nat} {t : Int} (h : ja_RO mem b t) (hq : ∀ q, q ≠ b + 1 → M q = mem q) (hS : ja_SO M (b + 1)) (hv : (M (b + 1) 3 = mem (b + 1) 3 ∧ M (b + 1) 4 = mem (b + 1) 4) ∨ mem (b + 15) 4 ≤ 0) : ja_RO M b t := by
  obtain ⟨g1, g2, g3, g4, g5, g6, g7, g8, g9, g10, g11, g12⟩ := h
  have e : ∀ c, c ≠ 1 → M (b + c) = mem (b + c) := fun c hc => hq _ (by omega)
  have e0 : M b = mem b := hq b (by omega)
  refine ⟨hS, ja_TO_c (hq _ (by omega)) (hq _ (by omega)) (hq _ (by omega)) g2, ja_PO_c (hq _ (by omega)) (hq _ (by omega)) (hq _ (by omega)) (hq _ (by omega)) g3, ja_AO_c (fun q a c => hq q (by omega)) g4, ?_, by rw [e0]; exact g6, by rw [e0]; exact g7, by rw [e0]; exact g8, by rw [e0, hq (b + 9) (by omega)]; exact g9, by rw [hq (b + 14) (by omega), hq (b + 9) (by omega)]; exact g10, by rw [hq (b + 14) (by omega), hq (b + 9) (by omega)]; exact g11, by rw [hq (b + 14) (by omega), hq (b + 9) (by omega)]; exact g12⟩
  intro j hj
  rw [hq (b + 15) (by omega)] at hj
  rcases hv with ⟨h3, h4⟩ | hv
  · rw [hq (b + 15 + 1) (by omega), hq (b + 15 + 2) (by omega), hq (b + 15 + 3) (by omega)]
    have e5 : ∀ r k i, ja_hasP M (b + 1) r k i = ja_hasP mem (b + 1) r k i := fun r k i => by simp only [ja_hasP, ja_hasB, ja_cells, h3, h4]
    rw [e5]
    exact g5 j hj
  · omega
theorem SO_up {mem : ja_M} {s j : Nat} {z : Int} (h : ja_SO mem s) (hz : N_in j z) (hj : j < 9) : ja_SO (ja_up mem s j z) s := by
  obtain ⟨s0, s1, s2, s3, s4, s5, s6, s7, s8⟩ := h
  rcases (show j = 0 ∨ j = 1 ∨ j = 2 ∨ j = 3 ∨ j = 4 ∨ j = 5 ∨ j = 6 ∨ j = 7 ∨ j = 8 by omega) with rfl | rfl | rfl | rfl | rfl | rfl | rfl | rfl | rfl
  · exact ⟨by rw [ja_up_s]; exact hz, by rw [ja_up_j (by omega)]; exact s1, by rw [ja_up_j (by omega)]; exact s2, by rw [ja_up_j (by omega)]; exact s3, by rw [ja_up_j (by omega)]; exact s4, by rw [ja_up_j (by omega)]; exact s5, by rw [ja_up_j (by omega)]; exact s6, by rw [ja_up_j (by omega)]; exact s7, by rw [ja_up_j (by omega)]; exact s8⟩
  · exact ⟨by rw [ja_up_j (by omega)]; exact s0, by rw [ja_up_s]; exact hz, by rw [ja_up_j (by omega)]; exact s2, by rw [ja_up_j (by omega)]; exact s3, by rw [ja_up_j (by omega)]; exact s4, by rw [ja_up_j (by omega)]; exact s5, by rw [ja_up_j (by omega)]; exact s6, by rw [ja_up_j (by omega)]; exact s7, by rw [ja_up_j (by omega)]; exact s8⟩
  · exact ⟨by rw [ja_up_j (by omega)]; exact s0, by rw [ja_up_j (by omega)]; exact s1, by rw [ja_up_s]; exact hz, by rw [ja_up_j (by omega)]; exact s3, by rw [ja_up_j (by omega)]; exact s4, by rw [ja_up_j (by omega)]; exact s5, by rw [ja_up_j (by omega)]; exact s6, by rw [ja_up_j (by omega)]; exact s7, by rw [ja_up_j (by omega)]; exact s8⟩
  · exact ⟨by rw [ja_up_j (by omega)]; exact s0, by rw [ja_up_j (by omega)]; exact s1, by rw [ja_up_j (by omega)]; exact s2, by rw [ja_up_s]; exact hz, by rw [ja_up_j (by omega)]; exact s4, by rw [ja_up_j (by omega)]; exact s5, by rw [ja_up_j (by omega)]; exact s6, by rw [ja_up_j (by omega)]; exact s7, by rw [ja_up_j (by omega)]; exact s8⟩
  · exact ⟨by rw [ja_up_j (by omega)]; exact s0, by rw [ja_up_j (by omega)]; exact s1, by rw [ja_up_j (by omega)]; exact s2, by rw [ja_up_j (by omega)]; exact s3, by rw [ja_up_s]; exact hz, by rw [ja_up_j (by omega)]; exact s5, by rw [ja_up_j (by omega)]; exact s6, by rw [ja_up_j (by omega)]; exact s7, by rw [ja_up_j (by omega)]; exact s8⟩
  · exact ⟨by rw [ja_up_j (by omega)]; exact s0, by rw [ja_up_j (by omega)]; exact s1, by rw [ja_up_j (by omega)]; exact s2, by rw [ja_up_j (by omega)]; exact s3, by rw [ja_up_j (by omega)]; exact s4, by rw [ja_up_s]; exact hz, by rw [ja_up_j (by omega)]; exact s6, by rw [ja_up_j (by omega)]; exact s7, by rw [ja_up_j (by omega)]; exact s8⟩
  · exact ⟨by rw [ja_up_j (by omega)]; exact s0, by rw [ja_up_j (by omega)]; exact s1, by rw [ja_up_j (by omega)]; exact s2, by rw [ja_up_j (by omega)]; exact s3, by rw [ja_up_j (by omega)]; exact s4, by rw [ja_up_j (by omega)]; exact s5, by rw [ja_up_s]; exact hz, by rw [ja_up_j (by omega)]; exact s7, by rw [ja_up_j (by omega)]; exact s8⟩
  · exact ⟨by rw [ja_up_j (by omega)]; exact s0, by rw [ja_up_j (by omega)]; exact s1, by rw [ja_up_j (by omega)]; exact s2, by rw [ja_up_j (by omega)]; exact s3, by rw [ja_up_j (by omega)]; exact s4, by rw [ja_up_j (by omega)]; exact s5, by rw [ja_up_j (by omega)]; exact s6, by rw [ja_up_s]; exact hz, by rw [ja_up_j (by omega)]; exact s8⟩
  · exact ⟨by rw [ja_up_j (by omega)]; exact s0, by rw [ja_up_j (by omega)]; exact s1, by rw [ja_up_j (by omega)]; exact s2, by rw [ja_up_j (by omega)]; exact s3, by rw [ja_up_j (by omega)]; exact s4, by rw [ja_up_j (by omega)]; exact s5, by rw [ja_up_j (by omega)]; exact s6, by rw [ja_up_j (by omega)]; exact s7, by rw [ja_up_s]; exact hz⟩
/-- a setting, set where it may be -/
theorem RO_up {mem : ja_M} {b j : Nat} {t z : Int} (h : ja_RO mem b t) (hz : N_in j z) (hj : j < 9) (hv : (j ≠ 3 ∧ j ≠ 4) ∨ mem (b + 15) 4 ≤ 0) : ja_RO (ja_up mem (b + 1) j z) b t := RO_set h (fun q hq => ja_up_row hq) (SO_up h.1 hz hj) (by
  rcases hv with ⟨h3, h4⟩ | hv
  · exact Or.inl ⟨ja_up_j (by omega), ja_up_j (by omega)⟩
  · exact Or.inr hv)
theorem N_O_up {v : Nat → Int} {j : Nat} {t z : Int} (h : N_O v t) (hz : N_in j z) (hj : j < 9) (hv : (j ≠ 3 ∧ j ≠ 4) ∨ v 25 ≤ 0) : N_O (ja_rs v j z) t := by
  obtain ⟨hR, h1, hP⟩ := h
  refine ⟨hR.rs hz, ?_, ?_⟩
  · rw [ja_rs_n (show (9 : Nat) ≠ j by omega), ja_rs_n (show (10 : Nat) ≠ j by omega), ja_rs_n (show (11 : Nat) ≠ j by omega), ja_rs_n (show (12 : Nat) ≠ j by omega), ja_rs_n (show (13 : Nat) ≠ j by omega), ja_rs_n (show (14 : Nat) ≠ j by omega), ja_rs_n (show (21 : Nat) ≠ j by omega), ja_rs_n (show (22 : Nat) ≠ j by omega), ja_rs_n (show (23 : Nat) ≠ j by omega)]
    exact h1
  · intro i i0 il
    rw [ja_rs_n (by omega)] at il
    rcases hv with ⟨h3, h4⟩ | hv
    · have hp := hP i i0 il
      rw [ja_rs_n (by omega), ja_rs_n (by omega), ja_rs_n (by omega)]
      have e5 : ∀ r k c, N_hP (ja_rs v j z) r k c = N_hP v r k c := fun r k c => by simp only [N_hP, N_hB, N_ar, ja_rs_n (show (3 : Nat) ≠ j by omega), ja_rs_n (show (4 : Nat) ≠ j by omega)]
      unfold N_pe
      rw [e5]
      exact hp
    · omega
end
section
-- adding to arrivals
theorem A_all_app {mem : ja_M} {a o : Nat} (h0 : 0 ≤ mem a 4) (hao : a + 5 ≤ o ∨ o + 5 ≤ a) : ∀ k : Nat, mem a 4 + k ≤ 24 → A_all mem a o k a 4 = mem a 4 + k ∧ (∀ (c j : Nat), 1 ≤ c → c ≤ 4 → (j : Int) < mem a 4 → A_all mem a o k (a + c) j = mem (a + c) j) ∧ ∀ (c i : Nat), 1 ≤ c → c ≤ 4 → i < k → A_all mem a o k (a + c) (mem a 4 + i).toNat = mem (o + c) i
  | 0, _ => ⟨by simp [A_all], fun _ _ _ _ _ => rfl, fun _ _ _ _ h => by omega⟩
  | k + 1, hk => by
    obtain ⟨i1, i2, i3⟩ := A_all_app h0 hao k (by omega)
    have hlt : A_all mem a o k a 4 < 24 := by omega
    have hs : (A_all mem a o k a 4).toNat = (mem a 4 + k).toNat := by omega
    simp only [A_all]
    unfold A_add
    rw [if_pos hlt, hs]
    refine ⟨by rw [ja_up_s, i1]; omega, fun c j c1 c2 hj => ?_, fun c i c1 c2 hi => ?_⟩
    · rw [ja_up_x (by omega), ja_up_x (by omega), ja_up_x (by omega), ja_up_x (by omega), ja_up_x (by omega)]
      exact i2 c j c1 c2 hj
    · by_cases hik : i = k
      · subst hik
        rcases (show c = 1 ∨ c = 2 ∨ c = 3 ∨ c = 4 by omega) with rfl | rfl | rfl | rfl
        · rw [ja_up_a (by omega), ja_up_a (by omega), ja_up_a (by omega), ja_up_a (by omega), ja_up_s]
        · rw [ja_up_a (by omega), ja_up_a (by omega), ja_up_a (by omega), ja_up_s]
        · rw [ja_up_a (by omega), ja_up_a (by omega), ja_up_s]
        · rw [ja_up_a (by omega), ja_up_s]
      · rw [ja_up_x (by omega), ja_up_x (by omega), ja_up_x (by omega), ja_up_x (by omega), ja_up_x (by omega)]
        exact i3 c i c1 c2 (by omega)
theorem B_cas_all {m : ja_M} {y : Nat} : ∀ (r i : Nat), ¬ B_cas m y r i = 0 → ∀ j, i ≤ j → j < i + r → B_ca m y j
  | 0, i, _, j, h1, h2 => by omega
  | r + 1, i, h, j, h1, h2 => by
    simp only [B_cas] at h
    by_cases hc : B_ca m y i
    · rw [if_pos hc] at h
      by_cases hj : j = i
      · subst hj
        exact hc
      · exact B_cas_all r (i + 1) h j (by omega) (by omega)
    · rw [if_neg hc] at h
      exact absurd rfl h
theorem N_cas_all {v T : Nat → Int} : ∀ (r i : Nat), ¬ N_cas v T r i = 0 → ∀ j, i ≤ j → j < i + r → N_ia v T (j : Int)
  | 0, i, _, j, h1, h2 => by omega
  | r + 1, i, h, j, h1, h2 => by
    simp only [N_cas] at h
    by_cases hc : N_ia v T (i : Int)
    · rw [if_pos hc] at h
      by_cases hj : j = i
      · subst hj
        exact hc
      · exact N_cas_all r (i + 1) h j (by omega) (by omega)
    · rw [if_neg hc] at h
      exact absurd rfl h
theorem A_app_RO {M : ja_M} {y : Nat} {t : Int} (hM : ja_RO M (y + 1) t) (hA : ja_AO M (y + 44)) (hca : ¬ B_cas M y (M (y + 44) 4).toNat 0 = 0) (hle : M (y + 1 + 15) 4 + M (y + 44) 4 ≤ 24) : ja_RO (A_all M (y + 1 + 15) (y + 44) (M (y + 44) 4).toNat) (y + 1) t := by
  obtain ⟨g1, g2, g3, g4, g5, g6, g7, g8, g9, g10, g11, g12⟩ := hM
  have h4 := hA.1
  obtain ⟨e1, e2, e3⟩ := A_all_app (mem := M) (a := y + 1 + 15) (o := y + 44) g4.1.1 (by omega) (M (y + 44) 4).toNat (by omega)
  have ho : ∀ q, (q < y + 1 + 15 ∨ y + 1 + 15 + 5 ≤ q) → A_all M (y + 1 + 15) (y + 44) (M (y + 44) 4).toNat q = M q := fun q hq => A_all_o hq _
  have hAA := A_all_AO g4 hA (M (y + 44) 4).toNat
  generalize A_all M (y + 1 + 15) (y + 44) (M (y + 44) 4).toNat = W at *
  refine ⟨ja_SO_c (ho _ (by omega)) g1, ja_TO_c (ho _ (by omega)) (ho _ (by omega)) (ho _ (by omega)) g2, ja_PO_c (ho _ (by omega)) (ho _ (by omega)) (ho _ (by omega)) (ho _ (by omega)) g3, hAA, ?_, by rw [ho _ (by omega)]; exact g6, by rw [ho _ (by omega)]; exact g7, by rw [ho _ (by omega)]; exact g8, by rw [ho (y + 1 + 9) (by omega), ho (y + 1) (by omega)]; exact g9, by rw [ho (y + 1 + 14) (by omega), ho (y + 1 + 9) (by omega)]; exact g10, by rw [ho (y + 1 + 14) (by omega), ho (y + 1 + 9) (by omega)]; exact g11, by rw [ho (y + 1 + 14) (by omega), ho (y + 1 + 9) (by omega)]; exact g12⟩
  intro j hj
  rw [e1] at hj
  have e5 : ∀ r k i, ja_hasP W (y + 1 + 1) r k i = ja_hasP M (y + 1 + 1) r k i := fun r k i => by simp only [ja_hasP, ja_hasB, ja_cells, ho (y + 1 + 1) (by omega)]
  by_cases hjo : (j : Int) < M (y + 1 + 15) 4
  · rw [e2 1 j (by omega) (by omega) hjo, e2 2 j (by omega) (by omega) hjo, e2 3 j (by omega) (by omega) hjo, e5]
    exact g5 j hjo
  · have g0 := g4.1.1
    have hi : j = (M (y + 1 + 15) 4 + ((j - (M (y + 1 + 15) 4).toNat : Nat) : Int)).toNat := by omega
    have f1 := e3 1 (j - (M (y + 1 + 15) 4).toNat) (by omega) (by omega) (by omega)
    have f2 := e3 2 (j - (M (y + 1 + 15) 4).toNat) (by omega) (by omega) (by omega)
    have f3 := e3 3 (j - (M (y + 1 + 15) 4).toNat) (by omega) (by omega) (by omega)
    rw [← hi] at f1 f2 f3
    have hb := B_cas_all _ _ hca (j - (M (y + 1 + 15) 4).toNat) (by omega) (by omega)
    rw [f1, f2, f3, e5]
    obtain ⟨-, hb2⟩ := hb
    refine ⟨fun q => ?_, fun q => ?_⟩
    · rw [if_pos q] at hb2
      exact hb2.2
    · rw [if_neg q] at hb2
      exact hb2
theorem B_sc_RO {mem : ja_M} {y : Nat} {t : Int} (hR : ja_RO mem (y + 1) t) (hH : ja_HO mem (y + 42)) (hA : ja_AO mem (y + 44)) : ja_RO (B_sc mem y).2 (y + 1) t ∧ ja_HO (B_sc mem y).2 (y + 42) ∧ ja_AO (B_sc mem y).2 (y + 44) := by
  obtain ⟨r1, r2, r3⟩ := B_rd_all hH hA
  have hM : ja_RO (B_rd mem y).2 (y + 1) t := ja_RO_all (fun q a b => r3 q (by omega)) hR
  unfold B_sc
  split
  · split
    · exact ⟨hM, r2, r1⟩
    · rename_i hca
      split
      · exact ⟨hM, r2, r1⟩
      · rename_i hle
        dsimp only
        exact ⟨A_app_RO hM r1 hca (by omega), ja_HO_c (A_all_o (by omega) _) (A_all_o (by omega) _) r2, ja_AO_c (fun q a b => A_all_o (by omega) _) r1⟩
  · exact ⟨hM, r2, r1⟩
-- the reference's schedule
theorem T_in {T : Nat → Int} {tl : Int} (hT : ∀ i : Int, 0 ≤ i → i < tl → N_tr T i) (c : Nat) (hc : (c : Int) < 4 * tl) : 0 ≤ T c ∧ T c ≤ 9999 := by
  obtain ⟨⟨a0, a1⟩, ⟨b0, b1⟩, ⟨c0, c1⟩, d0, d1⟩ := hT ((c / 4 : Nat) : Int) (by omega) (by omega)
  rcases (show c % 4 = 0 ∨ c % 4 = 1 ∨ c % 4 = 2 ∨ c % 4 = 3 by omega) with h | h | h | h
  · rw [show (4 * ((c / 4 : Nat) : Int)).toNat = c by omega] at a0 a1
    omega
  · rw [show (4 * ((c / 4 : Nat) : Int) + 1).toNat = c by omega] at b0 b1
    omega
  · rw [show (4 * ((c / 4 : Nat) : Int) + 2).toNat = c by omega] at c0 c1
    omega
  · rw [show (4 * ((c / 4 : Nat) : Int) + 3).toNat = c by omega] at d0 d1
    omega
theorem N_cpp_R {v T : Nat → Int} {tl : Int} (hR : N_R v) (hT : ∀ i : Int, 0 ≤ i → i < tl → N_tr T i) (h24 : v 25 + tl ≤ 24) : ∀ c : Nat, (c : Int) ≤ 4 * tl → N_R (N_cpp v T c)
  | 0, _ => hR
  | c + 1, hc => by
    have h25 := hR.C
    have ht := T_in hT c (by omega)
    simp only [N_cpp]
    exact (N_cpp_R hR hT h24 c (by omega)).rs ((N_inP (by omega)).mpr ht)
theorem N_sd_O {v T : Nat → Int} {tl t : Int} (hO : N_O v t) (h0 : 0 ≤ tl) (h24 : v 25 + tl ≤ 24) (hT : ∀ i : Int, 0 ≤ i → i < tl → N_tr T i) (hia : ∀ i : Int, 0 ≤ i → i < tl → N_ia v T i) : N_O (N_sd v T tl) t := by
  obtain ⟨hR, h1, hP⟩ := hO
  have hC := hR.C
  have h25 : 0 ≤ v 25 := by omega
  have hn : ∀ q : Nat, q < 2388 → q ≠ 25 → N_sd v T tl q = v q := fun q a b => by
    unfold N_sd
    rw [ja_rs_n b]
    exact N_cpp_n h25 _ (by omega)
  refine ⟨(N_cpp_R hR hT h24 _ (by omega)).rs (show 0 ≤ v 25 + tl ∧ v 25 + tl ≤ 24 by omega), ?_, ?_⟩
  · rw [hn 9 (by omega) (by omega), hn 10 (by omega) (by omega), hn 11 (by omega) (by omega), hn 12 (by omega) (by omega), hn 13 (by omega) (by omega), hn 14 (by omega) (by omega), hn 21 (by omega) (by omega), hn 22 (by omega) (by omega), hn 23 (by omega) (by omega)]
    exact h1
  · intro j j0 jl
    have e25 : N_sd v T tl 25 = v 25 + tl := by
      unfold N_sd
      rw [ja_rs_s]
    rw [e25] at jl
    have eP : ∀ r k i, N_hP (N_sd v T tl) r k i = N_hP v r k i := fun r k i => by simp only [N_hP, N_hB, N_ar, hn 3 (by omega) (by omega), hn 4 (by omega) (by omega)]
    unfold N_pe
    rw [eP]
    by_cases hj : j < v 25
    · have hq : ∀ q : Int, 0 ≤ q → q < 4 → N_sd v T tl (2388 + 4 * j + q).toNat = v (2388 + 4 * j + q).toNat := fun q q0 q4 => by
        unfold N_sd
        rw [ja_rs_n (by omega)]
        exact N_cpp_n h25 _ (by omega)
      have e0 := hq 0 (by omega) (by omega)
      rw [show (2388 + 4 * j + 0 : Int) = 2388 + 4 * j by omega] at e0
      rw [e0, hq 1 (by omega) (by omega), hq 2 (by omega) (by omega)]
      exact hP j j0 hj
    · have hq : ∀ q : Nat, q < 4 → N_sd v T tl (2388 + 4 * j + q).toNat = T (4 * (j - v 25) + q).toNat := fun q q4 => by
        unfold N_sd
        rw [ja_rs_n (by omega)]
        have := N_cpp_s (v := v) (T := T) h25 (4 * tl).toNat (4 * (j - v 25) + q).toNat (by omega)
        rw [← this]
        congr 1
        omega
      have e0 := hq 0 (by omega)
      have e1 := hq 1 (by omega)
      have e2 := hq 2 (by omega)
      rw [show (2388 + 4 * j + ((0 : Nat) : Int)) = 2388 + 4 * j by omega, show (4 * (j - v 25) + ((0 : Nat) : Int)) = 4 * (j - v 25) by omega] at e0
      rw [show (2388 + 4 * j + ((1 : Nat) : Int)) = 2388 + 4 * j + 1 by omega, show (4 * (j - v 25) + ((1 : Nat) : Int)) = 4 * (j - v 25) + 1 by omega] at e1
      rw [show (2388 + 4 * j + ((2 : Nat) : Int)) = 2388 + 4 * j + 2 by omega, show (4 * (j - v 25) + ((2 : Nat) : Int)) = 4 * (j - v 25) + 2 by omega] at e2
      rw [e0, e1, e2]
      have ha := hia (j - v 25) (by omega) (by omega)
      have hb := (hT (j - v 25) (by omega) (by omega)).1
      obtain ⟨ha1, -⟩ := ha
      refine ⟨hb, fun q => ?_, fun q => ?_⟩
      · rw [if_pos q] at ha1
        exact ha1.2
      · rw [if_neg q] at ha1
        exact ha1
theorem N_sw_O {v : Nat → Int} {t : Int} {G : ja_M} {m : Nat} (hO : N_O v t) (hTO : N_TO G m) : N_O (N_sw v (N_rdt G m)) t := by
  obtain ⟨x1, x2, x3, x4⟩ := @N_tx_p (G (m + 5)) (G m 5) 25 0 0 (G (m + 8)) (by omega) (by omega) hTO.1.1 (by omega) (fun i i0 i1 => by omega)
  rw [show N_tx (G (m + 5)) (G m 5) 25 0 0 (G (m + 8)) = N_rdt G m from rfl] at x1 x2 x3 x4
  unfold N_sw
  split
  · exact hO
  · split
    · exact hO
    · rename_i h1 hca
      split
      · exact hO
      · obtain ⟨y1, y2⟩ := x4 (by omega)
        refine N_sd_O hO x3.1 (by omega) y2 (fun i i0 i1 => ?_)
        have := N_cas_all _ _ hca i.toNat (by omega) (by omega)
        rw [show ((i.toNat : Nat) : Int) = i by omega] at this
        exact this
theorem N_sw_n {v : Nat → Int} {E : N_E} {q : Nat} (h25 : 0 ≤ v 25) (hq : q < 2388) (hn : q ≠ 25) : N_sw v E q = v q := by
  unfold N_sw
  split
  · rfl
  · split
    · rfl
    · split
      · rfl
      · unfold N_sd
        rw [ja_rs_n hn]
        exact N_cpp_n h25 _ (by omega)
-- predictions keep the forecast's ranges
theorem B_gap_RO {b : Nat} {c : Int} : ∀ (r i : Nat) (m : ja_M) (t : Int), ja_RO m b t → t + r ≤ 900001 → ∃ t2, ja_RO (B_gap b c r i m).2 b t2
  | 0, _, m, t, h, _ => ⟨t, h⟩
  | r + 1, i, m, t, h, ht => by
    have h1 := R_tk_RO h (by omega)
    simp only [B_gap]
    split
    · exact ⟨_, h1⟩
    · exact B_gap_RO r (i + 1) _ _ h1 (by omega)
theorem B_fra_RO {b : Nat} {x : Int} : ∀ (r i : Nat) (m : ja_M) (t : Int), ja_RO m b t → t + r ≤ 900001 → ∃ t2, ja_RO (B_fra b x r i m).2 b t2
  | 0, _, m, t, h, _ => ⟨t, h⟩
  | r + 1, i, m, t, h, ht => by
    have h1 := R_tk_RO h (by omega)
    simp only [B_fra]
    split
    · exact ⟨_, h1⟩
    · exact B_fra_RO r (i + 1) _ _ h1 (by omega)
-- a tie holds while time passes
theorem S_adv {S : S_T} (hS : S_tk S) {mem : ja_M} {b : Nat} {v : Nat → Int} {t : Int} (hR : ja_RO mem b t) (hO : N_O v t) (h : S mem b v) : ∀ k : Nat, t + k ≤ 900001 → S (B_adv mem b k) b (N_ad v k)
  | 0, _ => h
  | k + 1, hk => hS _ b _ (t + k) (B_adv_RO hR k (by omega)) (N_ad_O hO k (by omega)) (by omega) (S_adv hS hR hO h k (by omega))
-- THE SMALL TIE: time, quantile, margin, adapting
def S0 : S_T := fun mem b v => mem b 6 = v 9 ∧ ∀ j, 6 ≤ j → j < 9 → mem (b + 1) j = v j
theorem R_tk_6 {mem : ja_M} {b : Nat} : R_tk mem b b 6 = mem b 6 + 1 := by
  have e : R_due mem b b = R_du mem b (mem (b + 15) 4).toNat b := by
    unfold R_due
    exact A_rem_o (by omega) _
  unfold R_tk
  rw [ja_up_s, R_pl_o (by omega), e, R_du_6]
theorem R_tk_1 {mem : ja_M} {b : Nat} : R_tk mem b (b + 1) = mem (b + 1) := by
  unfold R_tk
  rw [ja_up_row (by omega), R_pl_o (by omega)]
  unfold R_due
  rw [A_rem_o (by omega), R_du_o (by omega)]
theorem N_pl_n {a : Nat → Int} {t : Int} (h : N_O a t) {j : Nat} (hj : j < 11) : N_pl a j = a j := by
  obtain ⟨h2, h3⟩ := N_t2_O h
  have hC := h2.1.C
  unfold N_pl
  split
  · unfold N_t3
    split
    · rw [ja_rs_n (by omega), ja_rs_n (by omega), ja_rs_n (by omega)]
      exact h3 j hj
    · exact h3 j hj
  · rfl
theorem N_ti_n {v : Nat → Int} {t : Int} (h : N_O v t) (ht : t ≤ 900000) {j : Nat} (hj : j < 9) : N_ti v j = v j := by
  have h1 := N_t1_O h ht
  unfold N_ti
  rw [ja_rs_n (by omega), N_pl_n h1 (by omega)]
  unfold N_t1
  rw [ja_rs_n (by omega)]
  exact (N_as_O h ht).2 j (by omega) (by omega)
theorem N_ti_9 {v : Nat → Int} {t : Int} (h : N_O v t) (ht : t ≤ 900000) : N_ti v 9 = v 9 + 1 := by
  have h1 := N_t1_O h ht
  unfold N_ti
  rw [ja_rs_s, N_pl_n h1 (by omega)]
  unfold N_t1
  rw [ja_rs_n (by omega), (N_as_O h ht).2 9 (by omega) (by omega)]
theorem S0_ok : S_ok S0 := by
  refine ⟨?_, ?_, ?_, ?_, ?_, ?_, ?_, ?_, ?_, ?_⟩
  · intro mem mem' b v v' hm hv h
    refine ⟨by rw [hm b (by omega) (by omega), hv 9 (by omega)]; exact h.1, fun j h6 h9 => by rw [hm (b + 1) (by omega) (by omega), hv j (by omega)]; exact h.2 j h6 h9⟩
  · intro mem mem' b o v t hR he h
    obtain ⟨e1, -, -, -, -, -, -, -, -, -, -, e12, -⟩ := he
    exact ⟨e12.trans h.1, fun j h6 h9 => (e1 j h9).trans (h.2 j h6 h9)⟩
  · intro mem b v t P _ j z hj hR hO h
    refine ⟨?_, fun i h6 h9 => ?_⟩
    · split <;> split <;> (try rw [ja_up_a (by omega)]) <;> (try rw [ja_rs_n (by omega)]) <;> exact h.1
    · split <;> split <;> (try rw [ja_up_j (by omega)]) <;> (try rw [ja_rs_n (by omega)]) <;> exact h.2 i h6 h9
  · intro mem b v t P _ j i z w hj hi hR hO h
    refine ⟨?_, fun c h6 h9 => ?_⟩
    · split <;> split <;> (try rw [ja_up_a (by omega), ja_up_a (by omega)]) <;> (try rw [ja_rs_n (by omega), ja_rs_n (by omega)]) <;> exact h.1
    · split <;> split <;> (try rw [ja_up_j (by omega), ja_up_j (by omega)]) <;> (try rw [ja_rs_n (by omega), ja_rs_n (by omega)]) <;> exact h.2 c h6 h9
  · intro mem b v P _ j z h6 h9 h
    refine ⟨?_, fun c g6 g9 => ?_⟩
    · split
      · rw [ja_up_a (by omega), ja_rs_n (by omega)]
        exact h.1
      · exact h.1
    · split
      · by_cases hc : c = j
        · subst hc
          rw [ja_up_s, ja_rs_s]
        · rw [ja_up_j hc, ja_rs_n hc]
          exact h.2 c g6 g9
      · exact h.2 c g6 g9
  · intro mem b v t x hR hO ht hx h
    have hk := (N_av_O hO ht hx).2
    refine ⟨by rw [R_af_6, hk 9 (by omega) (by omega)]; exact h.1, fun j h6 h9 => by rw [R_af_o (by omega), hk j (by omega) (by omega)]; exact h.2 j h6 h9⟩
  · intro mem b v t r k i hR hO ht hr h
    refine ⟨?_, fun j h6 h9 => ?_⟩
    · split <;> split <;> (try rw [R_ap_6]) <;> first | exact h.1 | (rename_i hp; rw [(N_qv_O hO ht hp.1 (N_hP_6 hO.1.S hp)).2 9 (by omega) (by omega)]; exact h.1)
    · split <;> split <;> (try rw [R_ap_o (by omega)]) <;> first | exact h.2 j h6 h9 | (rename_i hp; rw [(N_qv_O hO ht hp.1 (N_hP_6 hO.1.S hp)).2 j (by omega) (by omega)]; exact h.2 j h6 h9)
  · intro mem b v t hR hO ht h
    exact ⟨by rw [R_tk_6, N_ti_9 hO ht, h.1], fun j h6 h9 => by rw [R_tk_1, N_ti_n hO ht h9]; exact h.2 j h6 h9⟩
  · intro mem G y m v t hR hH hA hO hT hx h
    have h25 := hO.1.C
    exact ⟨by rw [B_sc_f hH hA (by omega), N_sw_n (by omega) (by omega) (by omega)]; exact h.1, fun j h6 h9 => by rw [B_sc_f hH hA (by omega), N_sw_n (by omega) (by omega) (by omega)]; exact h.2 j h6 h9⟩
  · intro mem b h
    obtain ⟨-, -, -, -, -, -, s6, s7, s8⟩ := h.1
    refine ⟨(h.2 b 6 (by omega) (by omega) (by omega)).trans rfl, fun j h6 h9 => ?_⟩
    rcases (show j = 6 ∨ j = 7 ∨ j = 8 by omega) with rfl | rfl | rfl
    · exact s6
    · exact s7
    · exact s8
end
section
-- reading leaves the text
theorem B_rd_x {mem : ja_M} {y : Nat} (hH : ja_HO mem (y + 42)) (hA : ja_AO mem (y + 44)) : (B_rd mem y).2 (y + 42) 1 = mem (y + 42) 1 ∧ (B_rd mem y).2 (y + 42 + 1) = mem (y + 42 + 1) := by
  obtain ⟨h1, h2, h3, h4, h5, h6⟩ := X_lp_all (f := mem (y + 42 + 1)) (x := y + 42) (o := y + 44) (ln := mem (y + 42) 1) (by omega) (mem (y + 42) 1).toNat 0 _ (HO_XO hH (by omega)) (AO_0 hA (by omega))
  exact ⟨h3.trans (by rw [ja_up_j (by omega), ja_up_a (by omega)]), (h2 _ (by omega) (by omega)).trans (by rw [ja_up_row (by omega), ja_up_row (by omega)])⟩
theorem B_sc_x {mem : ja_M} {y : Nat} (hH : ja_HO mem (y + 42)) (hA : ja_AO mem (y + 44)) : (B_sc mem y).2 (y + 42) 1 = mem (y + 42) 1 ∧ (B_sc mem y).2 (y + 42 + 1) = mem (y + 42 + 1) := by
  have hr := B_rd_x hH hA
  unfold B_sc
  split
  · split
    · exact hr
    · split
      · exact hr
      · dsimp only
        rw [A_all_o (by omega), A_all_o (by omega)]
        exact hr
  · exact hr
theorem N_TO_c {G M : ja_M} {m : Nat} (h0 : M m 5 = G m 5) (h5 : M (m + 5) = G (m + 5)) (h : N_TO G m) : N_TO M m := by
  unfold N_TO
  rw [h0, h5]
  exact h
/-- a step of the text -/
theorem In_text {S : S_T} (hS : S_ok S) {lay : ja_Y} {mem : ja_M} {n y : Nat} {sl : Nat → Option Nat} {t : Int} (h : L_In S lay mem n y sl t) {M1 G' : ja_M} (c1 : ∀ q, (q < y + 42 ∨ y + 44 ≤ q) → M1 q = mem q) (cH : ja_HO M1 (y + 42)) (hG : ∀ q, q ≠ y + 49 → q ≠ y + 49 + 5 → G' q = M1 q) (hT : N_TO G' (y + 49)) (hx : L_x M1 y G' (y + 49)) : L_In S lay (ja_rw G' (y + 49 + 1) (mem (y + 49 + 1))) n y sl (t + 500) := by
  obtain ⟨⟨a1, a2, a3, a4, a5⟩, ⟨b1, b2, b3, b4, b5⟩, hTt, -, hsl⟩ := h
  obtain ⟨cg, -⟩ := hS
  have f1 : ∀ q, q ≠ y + 49 → q ≠ y + 49 + 1 → q ≠ y + 49 + 5 → ja_rw G' (y + 49 + 1) (mem (y + 49 + 1)) q = M1 q := fun q d0 d1 d5 => by rw [ja_rw_n d1]; exact hG q d0 d5
  have f2 : ∀ q, (q < y + 42 ∨ y + 44 ≤ q) → q ≠ y + 49 → q ≠ y + 49 + 1 → q ≠ y + 49 + 5 → ja_rw G' (y + 49 + 1) (mem (y + 49 + 1)) q = mem q := fun q d d0 d1 d5 => (f1 q d0 d1 d5).trans (c1 q d)
  have f5 : ja_rw G' (y + 49 + 1) (mem (y + 49 + 1)) (y + 49) = G' (y + 49) := ja_rw_n (by omega)
  have k5 : ja_rw G' (y + 49 + 1) (mem (y + 49 + 1)) (y + 49 + 5) = G' (y + 49 + 5) := ja_rw_n (by omega)
  have k3 := f2 (y + 49 + 3) (by omega) (by omega) (by omega) (by omega)
  have k4 := f2 (y + 49 + 4) (by omega) (by omega) (by omega) (by omega)
  obtain ⟨h1, ⟨t2, h2⟩, h3, h4, h5⟩ := a2
  refine ⟨⟨a1, ⟨ja_RO_all (fun q d1 d2 => f2 q (by omega) (by omega) (by omega) (by omega)) (h1.mono (by omega)), ⟨t2, ja_RO_all (fun q d1 d2 => f2 q (by omega) (by omega) (by omega) (by omega)) h2⟩, ja_HO_c (f1 _ (by omega) (by omega) (by omega)) (f1 _ (by omega) (by omega) (by omega)) cH, ja_AO_c (fun q d1 d2 => f2 q (by omega) (by omega) (by omega) (by omega)) h4, fun i o hi ho => ja_RO_all (fun q d1 d2 => f2 q (by have := a4 i o hi ho; omega) (by have := a4 i o hi ho; omega) (by have := a4 i o hi ho; omega) (by have := a4 i o hi ho; omega)) ((h5 i o hi ho).mono (by omega))⟩, a3, a4, a5⟩, ⟨b1, ?_, ?_, ?_, ?_⟩, ?_, ⟨?_, ?_⟩, fun s hs2 => ⟨fun q => ?_, fun o q => ?_⟩⟩
  · rw [ja_rw_s]
    exact b2.mono (by omega)
  · exact N_TO_c (by rw [f5]) k5 hT
  · rw [k4]
    exact b4
  · rw [k3, k4]
    exact fun s d1 d2 => (b5 s d1 d2).mono (by omega)
  · rw [ja_rw_s]
    exact cg mem _ (y + 1) _ _ (fun q d1 d2 => f2 q (by omega) (by omega) (by omega) (by omega)) (fun _ _ => rfl) hTt
  · rw [f5, f1 _ (by omega) (by omega) (by omega)]
    exact hx.1
  · rw [f5, k5, f1 _ (by omega) (by omega) (by omega)]
    exact hx.2
  · rw [k4]
    exact (hsl s hs2).1 q
  · obtain ⟨e1, e2⟩ := (hsl s hs2).2 o q
    have ho := a4 s o hs2 q
    rw [k3, k4]
    exact ⟨e1, cg mem _ o _ _ (fun q d1 d2 => f2 q (by omega) (by omega) (by omega) (by omega)) (fun _ _ => rfl) e2⟩
theorem In_append {S : S_T} (hS : S_ok S) {lay : ja_Y} {mem : ja_M} {n y : Nat} {sl : Nat → Option Nat} {t k : Int} (h : L_In S lay mem n y sl t) {M1 : ja_M} (e : (if 32 ≤ k ∧ k ≤ 126 ∧ mem (y + 42) 1 < 120 then ja_up (ja_up mem (y + 42 + 1) (mem (y + 42) 1).toNat k) (y + 42) 1 (mem (y + 42) 1 + 1) else mem) = M1) : L_In S lay (ja_rw (if 32 ≤ k ∧ k ≤ 126 ∧ ¬ M1 (y + 49) 5 = 120 then ja_up (ja_up M1 (y + 49 + 5) (M1 (y + 49) 5).toNat k) (y + 49) 5 (M1 (y + 49) 5 + 1) else M1) (y + 49 + 1) (mem (y + 49 + 1))) n y sl (t + 500) := by
  have hx := h.2.2.2.1
  have hH := h.1.2.1.2.2.1
  have hT := h.2.1.2.2.1
  obtain ⟨x1, x2⟩ := hx
  obtain ⟨h1, hch, h5, h6, h7⟩ := id hH
  obtain ⟨t1, t2⟩ := id hT
  by_cases hc : 32 ≤ k ∧ k ≤ 126 ∧ mem (y + 42) 1 < 120
  · rw [if_pos hc] at e
    have e49 : M1 (y + 49) = mem (y + 49) := by rw [← e, ja_up_row (by omega), ja_up_row (by omega)]
    have e54 : M1 (y + 49 + 5) = mem (y + 49 + 5) := by rw [← e, ja_up_row (by omega), ja_up_row (by omega)]
    have e42 : M1 (y + 42) 1 = mem (y + 42) 1 + 1 := by rw [← e, ja_up_s]
    have e43 : ∀ j, M1 (y + 42 + 1) j = if j = (mem (y + 42) 1).toNat then k else mem (y + 42 + 1) j := fun j => by
      rw [← e, ja_up_a (by omega)]
      by_cases hj : j = (mem (y + 42) 1).toNat
      · rw [if_pos hj, hj, ja_up_s]
      · rw [if_neg hj, ja_up_j hj]
    rw [if_pos ⟨hc.1, hc.2.1, by rw [e49]; omega⟩]
    refine In_text hS h (M1 := M1) (fun q hq => by rw [← e, ja_up_row (by omega), ja_up_row (by omega)]) ⟨by rw [e42]; omega, fun j => ?_, ?_, ?_, ?_⟩ (fun q d0 d5 => by rw [ja_up_row d0, ja_up_row d5]) ⟨?_, fun j => ?_⟩ ⟨?_, fun j hj => ?_⟩
    · rw [e43]
      split
      · omega
      · exact hch j
    · rw [← e, ja_up_j (by omega), ja_up_a (by omega)]
      exact h5
    · rw [← e, ja_up_j (by omega), ja_up_a (by omega)]
      exact h6
    · rw [← e, ja_up_j (by omega), ja_up_a (by omega)]
      exact h7
    · rw [ja_up_s, e49]
      omega
    · rw [ja_up_a (by omega), e49]
      by_cases hj : j = (mem (y + 49) 5).toNat
      · rw [hj, ja_up_s]
        omega
      · rw [ja_up_j hj, e54]
        exact t2 j
    · rw [ja_up_s, e42, e49, x1]
    · rw [ja_up_s, e49] at hj
      rw [ja_up_a (by omega), e49, e43]
      by_cases hjj : j = (mem (y + 49) 5).toNat
      · rw [if_pos (by omega), hjj, ja_up_s]
      · rw [if_neg (by omega), ja_up_j hjj, e54]
        exact x2 j (by omega)
  · rw [if_neg hc] at e
    subst e
    rw [if_neg (fun q => hc ⟨q.1, q.2.1, by omega⟩)]
    exact In_text hS h (fun _ _ => rfl) hH (fun _ _ _ => rfl) hT ⟨x1, x2⟩
theorem In_clear {S : S_T} (hS : S_ok S) {lay : ja_Y} {mem : ja_M} {n y : Nat} {sl : Nat → Option Nat} {t : Int} (h : L_In S lay mem n y sl t) {M1 : ja_M} (e : ja_up mem (y + 42) 1 0 = M1) : L_In S lay (ja_rw (ja_up M1 (y + 49) 5 0) (y + 49 + 1) (mem (y + 49 + 1))) n y sl (t + 500) := by
  have hx := h.2.2.2.1
  have hH := h.1.2.1.2.2.1
  have hT := h.2.1.2.2.1
  obtain ⟨h1, hch, h5, h6, h7⟩ := id hH
  subst e
  refine In_text hS h (M1 := ja_up mem (y + 42) 1 0) (G' := ja_up (ja_up mem (y + 42) 1 0) (y + 49) 5 0) (fun q hq => by rw [ja_up_row (by omega)]) ⟨by rw [ja_up_s]; omega, fun j => by rw [ja_up_a (by omega)]; exact hch j, by rw [ja_up_j (by omega)]; exact h5, by rw [ja_up_j (by omega)]; exact h6, by rw [ja_up_j (by omega)]; exact h7⟩ (fun q d0 d5 => by rw [ja_up_row d0]) ⟨by rw [ja_up_s]; omega, fun j => by rw [ja_up_a (by omega), ja_up_a (by omega)]; exact hT.2 j⟩ ⟨by rw [ja_up_s, ja_up_s], fun j hj => by rw [ja_up_s] at hj; omega⟩
-- slots
theorem N_kr_at {g v : Nat → Int} {s j : Nat} {k : Int} (hk : k = (s : Int)) (hj : j < 2484) : N_kr g v k 2484 (2484 * s + j) = v j := by
  subst hk
  unfold N_kr
  rw [if_pos (by omega)]
  congr 1
  omega
theorem N_kr_ne {g v : Nat → Int} {s j : Nat} {k : Int} (h0 : 0 ≤ k) (hk : k ≠ (s : Int)) (hj : j < 2484) : N_kr g v k 2484 (2484 * s + j) = g (2484 * s + j) := by
  unfold N_kr
  rw [if_neg]
  intro q
  omega
/-- a receiver is kept -/
theorem In_keep {S : S_T} (hS : S_ok S) {lay lay1 : ja_Y} {mem : ja_M} {n n1 y o : Nat} {sl sl1 : Nat → Option Nat} {t k : Int} (h : L_In S lay mem n y sl t) (hk : 0 ≤ k ∧ k ≤ 1) {m0 M1 : ja_M} (e : M1 = R_cp m0 o (y + 1)) (hm0 : ∀ q, q < n → m0 q = mem q) (hn1 : n ≤ n1) (ho : y + 58 ≤ o ∧ o + 20 ≤ n1) (hRo : ∃ t2, ja_RO m0 o t2) (hlB : ja_LB lay1 y sl1) (hlM : ja_LM lay1 (y + 49)) (hsk : sl1 k.toNat = some o) (hso : ∀ s : Nat, s < 2 → (s : Int) ≠ k → sl1 s = sl s) (hdis : ∀ (s o' : Nat), s < 2 → (s : Int) ≠ k → sl s = some o' → o' + 20 ≤ o ∨ o + 20 ≤ o') : L_In S lay1 (ja_rw (ja_up (ja_rw M1 (y + 49 + 3) (N_kr (M1 (y + 49 + 3)) (mem (y + 49 + 1)) k 2484)) (y + 49 + 4) k.toNat 1) (y + 49 + 1) (mem (y + 49 + 1))) n1 y sl1 (t + 500) := by
  obtain ⟨⟨a1, a2, a3, a4, a5⟩, ⟨b1, b2, b3, b4, b5⟩, hT, hx, hsl⟩ := h
  obtain ⟨cg, cy, -⟩ := hS
  obtain ⟨h1, ⟨t2, h2⟩, h3, h4, h5⟩ := a2
  obtain ⟨t3, hRo⟩ := hRo
  have hR0 : ja_RO m0 (y + 1) t := ja_RO_all (fun q d1 d2 => hm0 q (by omega)) h1
  have hfr : ∀ q, (q < o ∨ o + 20 ≤ q) → q < n → M1 q = mem q := fun q d1 d2 => by rw [e, R_cp_o (by omega), hm0 q d2]
  have hcp := R_cp_RO hR0 hRo (by omega)
  have heq := R_cp_eq (mem := m0) (b := o) (o := y + 1) (by omega) hR0.2.2.2.1.1
  have hS0 : S m0 (y + 1) (mem (y + 49 + 1)) := cg mem m0 _ _ _ (fun q d1 d2 => hm0 q (by omega)) (fun _ _ => rfl) hT
  have hSo : S M1 o (mem (y + 49 + 1)) := by
    rw [e]
    exact cy m0 _ o (y + 1) _ t hR0 heq hS0
  rw [← e] at hcp
  generalize hW : ja_rw (ja_up (ja_rw M1 (y + 49 + 3) (N_kr (M1 (y + 49 + 3)) (mem (y + 49 + 1)) k 2484)) (y + 49 + 4) k.toNat 1) (y + 49 + 1) (mem (y + 49 + 1)) = W
  have w1 : W (y + 49 + 1) = mem (y + 49 + 1) := by rw [← hW, ja_rw_s]
  have w3 : W (y + 49 + 3) = N_kr (mem (y + 49 + 3)) (mem (y + 49 + 1)) k 2484 := by rw [← hW, ja_rw_n (by omega), ja_up_row (by omega), ja_rw_s, hfr _ (by omega) (by omega)]
  have w4 : ∀ j, W (y + 49 + 4) j = if j = k.toNat then 1 else mem (y + 49 + 4) j := fun j => by
    rw [← hW, ja_rw_n (by omega)]
    by_cases hj : j = k.toNat
    · rw [if_pos hj, hj, ja_up_s]
    · rw [if_neg hj, ja_up_j hj, ja_rw_n (by omega), hfr _ (by omega) (by omega)]
  have wo : ∀ q, q ≠ y + 49 + 1 → q ≠ y + 49 + 3 → q ≠ y + 49 + 4 → W q = M1 q := fun q d1 d3 d4 => by rw [← hW, ja_rw_n d1, ja_up_row d4, ja_rw_n d3]
  have wm : ∀ q, q ≠ y + 49 + 1 → q ≠ y + 49 + 3 → q ≠ y + 49 + 4 → (q < o ∨ o + 20 ≤ q) → q < n → W q = mem q := fun q d1 d3 d4 d5 d6 => (wo q d1 d3 d4).trans (hfr q d5 d6)
  have hcase : ∀ s : Nat, s < 2 → ∀ o', sl1 s = some o' → ((s : Int) = k ∧ o' = o) ∨ ((s : Int) ≠ k ∧ sl s = some o') := fun s s2 o' hs => by
    by_cases hq : (s : Int) = k
    · left
      have : k.toNat = s := by omega
      rw [← this, hsk] at hs
      cases hs
      exact ⟨hq, rfl⟩
    · right
      rw [hso s s2 hq] at hs
      exact ⟨hq, hs⟩
  refine ⟨⟨hlB, ⟨?_, ⟨t2, ?_⟩, ?_, ?_, ?_⟩, by omega, ?_, ?_⟩, ⟨hlM, ?_, ?_, ?_, ?_⟩, ?_, ?_, ?_⟩
  · exact ja_RO_all (fun q d1 d2 => wm q (by omega) (by omega) (by omega) (by omega) (by omega)) (h1.mono (by omega))
  · exact ja_RO_all (fun q d1 d2 => wm q (by omega) (by omega) (by omega) (by omega) (by omega)) h2
  · exact ja_HO_c (wm _ (by omega) (by omega) (by omega) (by omega) (by omega)) (wm _ (by omega) (by omega) (by omega) (by omega) (by omega)) h3
  · exact ja_AO_c (fun q d1 d2 => wm q (by omega) (by omega) (by omega) (by omega) (by omega)) h4
  · intro i o' hi hs
    rcases hcase i hi o' hs with ⟨-, rfl⟩ | ⟨hne, hs2⟩
    · exact ja_RO_all (fun q d1 d2 => wo q (by omega) (by omega) (by omega)) (hcp.mono (by omega))
    · have ho' := a4 i o' hi hs2
      have hd := hdis i o' hi hne hs2
      exact ja_RO_all (fun q d1 d2 => wm q (by omega) (by omega) (by omega) (by omega) (by omega)) ((h5 i o' hi hs2).mono (by omega))
  · intro i o' hi hs
    rcases hcase i hi o' hs with ⟨-, rfl⟩ | ⟨-, hs2⟩
    · exact ho
    · have ho' := a4 i o' hi hs2
      exact ⟨ho'.1, by omega⟩
  · intro o0 o1 hs0 hs1
    rcases hcase 0 (by omega) o0 hs0 with ⟨k0, rfl⟩ | ⟨k0, hs02⟩
    · rcases hcase 1 (by omega) o1 hs1 with ⟨k1, -⟩ | ⟨k1, hs12⟩
      · omega
      · have := hdis 1 o1 (by omega) k1 hs12
        omega
    · rcases hcase 1 (by omega) o1 hs1 with ⟨k1, rfl⟩ | ⟨k1, hs12⟩
      · exact hdis 0 o0 (by omega) k0 hs02
      · exact a5 o0 o1 hs02 hs12
  · rw [w1]
    exact b2.mono (by omega)
  · exact N_TO_c (by rw [wm _ (by omega) (by omega) (by omega) (by omega) (by omega)]) (wm _ (by omega) (by omega) (by omega) (by omega) (by omega)) b3
  · intro j
    rw [w4]
    split
    · omega
    · exact b4 j
  · intro s s2 hs1
    rw [w4] at hs1
    rw [w3]
    by_cases hq : (s : Int) = k
    · exact (b2.mono (by omega)).c (fun j hj => N_kr_at hq.symm hj)
    · rw [if_neg (by omega)] at hs1
      exact ((b5 s s2 hs1).mono (by omega)).c (fun j hj => N_kr_ne hk.1 (fun q => hq q.symm) hj)
  · rw [w1]
    exact cg mem W _ _ _ (fun q d1 d2 => wm q (by omega) (by omega) (by omega) (by omega) (by omega)) (fun _ _ => rfl) hT
  · have x1 := wm (y + 42) (by omega) (by omega) (by omega) (by omega) (by omega)
    have x2 := wm (y + 42 + 1) (by omega) (by omega) (by omega) (by omega) (by omega)
    have x3 := wm (y + 49) (by omega) (by omega) (by omega) (by omega) (by omega)
    have x4 := wm (y + 49 + 5) (by omega) (by omega) (by omega) (by omega) (by omega)
    unfold L_x
    rw [x1, x2, x3, x4]
    exact hx
  · intro s s2
    rw [w4, w3]
    by_cases hq : (s : Int) = k
    · have hks : k.toNat = s := by omega
      rw [if_pos (by omega)]
      refine ⟨fun q => ?_, fun o' q => ?_⟩
      · rw [← hks, hsk] at q
        cases q
      · rw [← hks, hsk] at q
        cases q
        exact ⟨rfl, cg M1 W o _ _ (fun q d1 d2 => wo q (by omega) (by omega) (by omega)) (fun j hj => N_kr_at hq.symm hj) hSo⟩
    · rw [if_neg (by omega)]
      refine ⟨fun q => (hsl s s2).1 (by rw [← hso s s2 hq]; exact q), fun o' q => ?_⟩
      rw [hso s s2 hq] at q
      obtain ⟨e1, e2⟩ := (hsl s s2).2 o' q
      have ho' := a4 s o' s2 q
      have hd := hdis s o' s2 hq q
      exact ⟨e1, cg mem W o' _ _ (fun q d1 d2 => wm q (by omega) (by omega) (by omega) (by omega) (by omega)) (fun j hj => N_kr_ne hk.1 (fun q => hq q.symm) hj) e2⟩
/-- a receiver is restored -/
theorem In_restore {S : S_T} (hS : S_ok S) {lay : ja_Y} {mem : ja_M} {n y o s : Nat} {sl : Nat → Option Nat} {t : Int} (h : L_In S lay mem n y sl t) (hs : s < 2) (hso : sl s = some o) {M1 : ja_M} (e : R_cp mem (y + 1) o = M1) {v' : Nat → Int} (hv : ∀ j, j < 2484 → v' j = mem (y + 49 + 3) (2484 * s + j)) : L_In S lay (ja_rw M1 (y + 49 + 1) v') n y sl (t + 500) := by
  have h0 := h
  obtain ⟨⟨a1, a2, a3, a4, a5⟩, ⟨b1, b2, b3, b4, b5⟩, hT, hx, hsl⟩ := h
  obtain ⟨cg, cy, -⟩ := id hS
  have ho := a4 s o hs hso
  obtain ⟨e1, e2⟩ := (hsl s hs).2 o hso
  obtain ⟨h1, ⟨t2, h2⟩, h3, h4, h5⟩ := id a2
  have hRo := h5 s o hs hso
  have hcp := R_cp_RO hRo h1 (by omega)
  have heq := R_cp_eq (mem := mem) (b := y + 1) (o := o) (by omega) hRo.2.2.2.1.1
  have hfr : ∀ q, (q < y + 1 ∨ y + 21 ≤ q) → M1 q = mem q := fun q d => by rw [← e]; exact R_cp_o (by omega)
  rw [e] at hcp heq
  refine In_step hS h0 (fun q hq => hfr q (by omega)) (by rw [hfr _ (by omega)]) (hfr _ (by omega)) ?_ N_rf.rf (((b5 s hs e1).mono (by omega)).c hv) ?_
  · exact BO_recv (by omega) a2 (fun i o' hi ho' => by have := a4 i o' hi ho'; omega) (hcp.mono (by omega)) (fun q hq => hfr q (by omega))
  · exact cg M1 M1 _ _ _ (fun _ _ _ => rfl) hv (cy mem M1 (y + 1) o _ t hRo heq e2)
theorem In_fresh {S : S_T} (hS : S_ok S) {lay : ja_Y} {mem : ja_M} {n y : Nat} (h : L_fr lay mem n y (y + 49)) : L_In S lay mem n y (fun _ => none) 0 := by
  obtain ⟨hm, hn, hB, hM, hS1, hS2, hz, hv, hmz⟩ := id h
  obtain ⟨-, -, -, -, -, -, -, -, -, hi⟩ := hS
  refine ⟨⟨hB, h.BO, by omega, fun i o _ q => (by cases q), fun o0 o1 q _ => (by cases q)⟩, ⟨hM, by rw [hv]; exact N_v0_O, ⟨by rw [hmz (y + 49) 5 (by omega) (by omega) (by omega)]; omega, fun j => by rw [hmz (y + 49 + 5) j (by omega) (by omega) (by omega)]; omega⟩, fun j => by rw [hmz (y + 49 + 4) j (by omega) (by omega) (by omega)]; omega, fun s _ q => by rw [hmz (y + 49 + 4) s (by omega) (by omega) (by omega)] at q; omega⟩, by rw [hv]; exact hi _ _ h.R, ⟨?_, fun j hj => ?_⟩, fun s _ => ⟨fun _ => hmz (y + 49 + 4) s (by omega) (by omega) (by omega), fun o q => (by cases q)⟩⟩
  · rw [hmz (y + 49) 5 (by omega) (by omega) (by omega)]
    exact Z_HO h
  · rw [hmz (y + 49) 5 (by omega) (by omega) (by omega)] at hj
    omega
theorem In_step2 {S : S_T} (hS : S_ok S) {lay : ja_Y} {mem : ja_M} {n y : Nat} {sl : Nat → Option Nat} {t : Int} (h : L_In S lay mem n y sl t) {M1 G' M2 : ja_M} {v' : Nat → Int} (e : ja_rw G' (y + 49 + 1) v' = M2) (c1 : ∀ q, y + 49 ≤ q → M1 q = mem q) (c2 : M1 (y + 42) 1 = mem (y + 42) 1) (c3 : M1 (y + 42 + 1) = mem (y + 42 + 1)) (cB : ja_BO M1 y sl (t + 500)) (hG : N_rf (y + 49) M1 G') (hO : N_O v' (t + 500)) (hs : S M1 (y + 1) v') : L_In S lay M2 n y sl (t + 500) := by
  subst e
  exact In_step hS h c1 c2 c3 cB hG hO hs
end
section
theorem r_pop2 {C : ja_C} {own : String} {cc : ByteArray} {nl : Nat} {rm : Room} {cells slots n pc : Nat} {lay : ja_Y} {mem : ja_M} {ls : List (Option Value)} {st : List Value} (F : ja_F C own cc nl rm) {v : Value} (hc : v.category = 2) (d : decode cc pc = .ok (.pop2, 1)) {pc' : Nat} (hpc : pc + 1 = pc') (k : ja_W C cells slots lay mem n pc' ls st) : ja_W C cells slots lay mem n pc ls (v :: st) := by
  subst hpc
  obtain ⟨p, l, e, R, s, m, args, below, meth, c, D, cA, B, nL, Q⟩ := C
  obtain ⟨hnl, hrm, hx, hb, hml, hown, hts, ⟨hK, hAO, hNw⟩, hlk, hB⟩ := F
  subst hnl; subst hrm
  intro H locs lsA hH hS hl
  exact lv_pop2_2 hx hb d hc (k H locs lsA hH hS hl)
end
section
-- THE TWO READINGS OF A TEXT AGREE
section
variable {fc fr : Nat → Int} {x o n : Nat}
/-- but for the digits read -/
def X_sd (x : Nat) (m m' : ja_M) : Prop := ∀ q j, ¬ (q = x ∧ (j = 3 ∨ j = 4)) → m' q j = m q j
theorem X_sd.rf {m : ja_M} : X_sd x m m := fun _ _ _ => rfl
theorem X_dig (hf : ∀ j : Nat, j < n → fc j = fr j) : ∀ (k p : Nat) (z : Int) (m : ja_M), p ≤ n → ¬ m x 2 = 0 → m x 3 + k = 4 → 0 ≤ m x 3 → (m x 3 = 0 → z = -1 ∧ m x 4 = 0) → (¬ m x 3 = 0 → 0 ≤ z ∧ m x 4 = z) → ∃ (m' : ja_M) (p' : Nat), X_sd x m m' ∧ (N_nm fr n k p z).2 = (p' : Int) ∧ p ≤ p' ∧ p' ≤ n ∧ X_lp fc x o n (n - p) p m = X_lp fc x o n (n - p') p' m' ∧ (m' x 3 = 0 → (N_nm fr n k p z).1 = -1) ∧ (¬ m' x 3 = 0 → 0 ≤ (N_nm fr n k p z).1 ∧ m' x 4 = (N_nm fr n k p z).1) ∧ (0 ≤ m' x 3) ∧ (m' x 3 = 4 ∨ ¬ (48 ≤ N_he fr n p' ∧ N_he fr n p' ≤ 57)) ∧ m' x 3 ≤ 4
  | 0, p, z, m, hp, h2, h3, h30, ha, hb => ⟨m, p, X_sd.rf, rfl, Nat.le_refl _, hp, rfl, fun q => (ha q).1, fun q => ⟨(hb q).1, (hb q).2⟩, h30, Or.inl (by omega), by omega⟩
  | k + 1, p, z, m, hp, h2, h3, h30, ha, hb => by
    simp only [N_nm]
    by_cases hd : 48 ≤ N_he fr n p ∧ N_he fr n p ≤ 57
    · rw [if_pos hd]
      have hlt : (p : Int) < n := N_he_lt (f := fr) (by omega)
      have hc : N_he fr n p = fc p := by
        unfold N_he
        rw [if_pos hlt, hf p (by omega)]
        rfl
      have hc2 : 48 ≤ fc p ∧ fc p ≤ 57 := by rw [← hc]; exact hd
      have e1 : X_fm m x o (fc p) = ja_up (ja_up m x 4 (10 * m x 4 + fc p - 48)) x 3 (m x 3 + 1) := by rw [X_fm, if_neg h2, if_pos hc2]
      have e2 : X_fb m x (fc p) = 1 := by
        rw [X_fb, if_neg h2, if_pos hc2]
        exact if_pos (by omega)
      have e3 : X_lp fc x o n (n - p) p m = X_lp fc x o n (n - (p + 1)) (p + 1) (X_fm m x o (fc p)) := by
        rw [show n - p = (n - (p + 1)) + 1 by omega]
        simp only [X_lp]
        rw [e2, if_neg (by decide)]
      have f3 : X_fm m x o (fc p) x 3 = m x 3 + 1 := by rw [e1, ja_up_s]
      have f4 : X_fm m x o (fc p) x 4 = 10 * m x 4 + fc p - 48 := by rw [e1, ja_up_j (by omega), ja_up_s]
      have f2 : X_fm m x o (fc p) x 2 = m x 2 := by rw [e1, ja_up_j (by omega), ja_up_j (by omega)]
      have hz : (if z < 0 then 0 else 10 * z) = 10 * m x 4 := by
        by_cases q : m x 3 = 0
        · obtain ⟨q1, q2⟩ := ha q
          rw [if_pos (by omega), q2]
          rfl
        · obtain ⟨q1, q2⟩ := hb q
          rw [if_neg (by omega), q2]
      have h40 : 0 ≤ m x 4 := by
        by_cases q : m x 3 = 0
        · rw [(ha q).2]
          omega
        · have := hb q
          omega
      rw [hz, hc]
      obtain ⟨m', p', g1, g2, g3, g4, g5, g6, g7, g8, g9, g10⟩ := X_dig hf k (p + 1) (10 * m x 4 + fc p - 48) (X_fm m x o (fc p)) (by omega) (by rw [f2]; exact h2) (by rw [f3]; omega) (by rw [f3]; omega) (fun q => by rw [f3] at q; omega) (fun q => ⟨by omega, f4⟩)
      refine ⟨m', p', fun q j hq => ?_, ?_, by omega, g4, by rw [e3]; exact g5, ?_, ?_, g8, g9, g10⟩
      · rw [g1 q j hq, e1, ja_up_x (by omega), ja_up_x (by omega)]
      · rw [show ((p : Int) + 1) = ((p + 1 : Nat) : Int) by omega]
        exact g2
      · rw [show ((p : Int) + 1) = ((p + 1 : Nat) : Int) by omega]
        exact g6
      · rw [show ((p : Int) + 1) = ((p + 1 : Nat) : Int) by omega]
        exact g7
    · rw [if_neg hd]
      exact ⟨m, p, X_sd.rf, rfl, Nat.le_refl _, hp, rfl, fun q => (ha q).1, fun q => ⟨(hb q).1, (hb q).2⟩, h30, Or.inr hd, by omega⟩
/-- a number and the character behind it -/
theorem X_num (hf : ∀ j : Nat, j < n → fc j = fr j) {p : Nat} {m : ja_M} (hp : p ≤ n) (h2 : ¬ m x 2 = 0) (h3 : m x 3 = 0) (h4 : m x 4 = 0) : (((N_nm fr n 4 p (-1)).1 < 0 ∨ ¬ N_he fr n (N_nm fr n 4 p (-1)).2 = X_eon m x) → (X_lp fc x o n (n - p) p m).1 = (N_nm fr n 4 p (-1)).2) ∧ (¬ (N_nm fr n 4 p (-1)).1 < 0 → N_he fr n (N_nm fr n 4 p (-1)).2 = X_eon m x → ∃ (m' : ja_M) (p' : Nat), X_sd x m m' ∧ m' x 4 = (N_nm fr n 4 p (-1)).1 ∧ (N_nm fr n 4 p (-1)).2 = (p' : Int) ∧ p ≤ p' ∧ p' < n ∧ X_lp fc x o n (n - p) p m = X_lp fc x o n (n - (p' + 1)) (p' + 1) (X_en m' x o)) := by
  obtain ⟨m', p', g1, g2, g3, g4, g5, g6, g7, g8, g9, g10⟩ := X_dig (o := o) hf 4 p (-1) m hp h2 (by omega) (by omega) (fun _ => ⟨rfl, h4⟩) (fun q => absurd h3 q)
  have e2 : m' x 2 = m x 2 := g1 x 2 (by omega)
  have hn2 : ¬ m' x 2 = 0 := by rw [e2]; exact h2
  have eon : X_eon m' x = X_eon m x := by
    unfold X_eon
    rw [e2]
  have heon : X_eon m x = 46 ∨ X_eon m x = 59 ∨ X_eon m x = 64 := by
    unfold X_eon
    split
    · exact Or.inl rfl
    · split
      · exact Or.inr (Or.inl rfl)
      · exact Or.inr (Or.inr rfl)
  rw [g2]
  have hz : (N_nm fr n 4 p (-1)).1 < 0 ↔ m' x 3 = 0 := by
    constructor
    · intro q
      by_cases r : m' x 3 = 0
      · exact r
      · have := (g7 r).1
        omega
    · intro q
      have := g6 q
      omega
  refine ⟨fun hq => ?_, fun hz1 hh => ?_⟩
  · rw [g5]
    by_cases hpn : p' = n
    · subst hpn
      rw [Nat.sub_self]
      show (if m' x 2 = 0 then (-1004 : Int) else (p' : Int)) = _
      rw [if_neg hn2]
    · have hlt : p' < n := by omega
      have hc : N_he fr n p' = fc p' := by
        unfold N_he
        rw [if_pos (by omega), hf p' hlt]
        rfl
      have hb0 : X_fb m' x (fc p') = 0 := by
        rw [X_fb, if_neg hn2]
        by_cases hd : 48 ≤ fc p' ∧ fc p' ≤ 57
        · rw [if_pos hd]
          refine if_neg ?_
          rcases g9 with r | r
          · omega
          · rw [hc] at r
            exact absurd hd r
        · rw [if_neg hd]
          refine if_pos ?_
          rcases hq with r | r
          · exact Or.inl (hz.mp r)
          · rw [hc] at r
            exact Or.inr (by rw [eon]; exact r)
      rw [show n - p' = (n - (p' + 1)) + 1 by omega]
      simp only [X_lp]
      rw [hb0, if_pos rfl]
  · have hlt : (p' : Int) < n := N_he_lt (f := fr) (by omega)
    have hc : N_he fr n p' = fc p' := by
      unfold N_he
      rw [if_pos hlt, hf p' (by omega)]
      rfl
    have hm3 : ¬ m' x 3 = 0 := fun q => hz1 (hz.mpr q)
    have hcc : ¬ (48 ≤ fc p' ∧ fc p' ≤ 57) := by
      rw [← hc, hh]
      omega
    have hor : ¬ (m' x 3 = 0 ∨ ¬ fc p' = X_eon m' x) := by
      intro q
      rcases q with q | q
      · exact hm3 q
      · exact q (by rw [eon, ← hh, hc])
    refine ⟨m', p', g1, (g7 hm3).2, rfl, g3, by omega, ?_⟩
    rw [g5, show n - p' = (n - (p' + 1)) + 1 by omega]
    simp only [X_lp]
    rw [X_fb, if_neg hn2, if_neg hcc, if_neg hor, if_neg (by decide), X_fm, if_neg hn2, if_neg hcc, if_neg hor]
/-- entries of both -/
def X_te (o : Nat) (m : ja_M) (T : Nat → Int) (tl : Int) : Prop := ∀ i : Nat, (i : Int) < tl → m (o + 1) i = T (4 * i) ∧ m (o + 2) i = T (4 * i + 1) ∧ (¬ T (4 * i) = 0 → m (o + 3) i = T (4 * i + 2)) ∧ m (o + 4) i = T (4 * i + 3)
/-- the reading is between entries, tl of them are read -/
def X_rd (x o : Nat) (m : ja_M) (T : Nat → Int) (tl : Int) : Prop := m x 2 = 0 ∧ m o 4 = tl ∧ X_te o m T tl
theorem X_ex_n {m : ja_M} {p : Int} {q j : Nat} (h : ¬ (q = x ∧ (j = 2 ∨ j = 3 ∨ j = 4))) : X_ex m x p q j = m q j := by
  unfold X_ex
  rw [ja_up_x (by omega), ja_up_x (by omega), ja_up_x (by omega)]
/-- what follows a place, against what the reference read there -/
def X_cc (fc : Nat → Int) (x o n p : Nat) (m : ja_M) (E : N_E) : Prop := (E.1 = 0 → (X_lp fc x o n (n - p) p m).1 = E.2.1) ∧ (E.1 = 1 → ∃ (m' : ja_M) (p' : Nat), E.2.1 = (p' : Int) ∧ p' ≤ n ∧ X_lp fc x o n (n - p) p m = X_lp fc x o n (n - p') p' m' ∧ X_rd x o m' E.2.2.2 E.2.2.1)
theorem X_cc_e {p q : Nat} {m m1 : ja_M} {E : N_E} (e : X_lp fc x o n (n - p) p m = X_lp fc x o n (n - q) q m1) (h : X_cc fc x o n q m1 E) : X_cc fc x o n p m E := by
  unfold X_cc
  rw [e]
  exact h
theorem X_cc_0 {p : Nat} {m : ja_M} {q tl : Int} {T : Nat → Int} (h : (X_lp fc x o n (n - p) p m).1 = q) : X_cc fc x o n p m (0, q, tl, T) := ⟨fun _ => h, fun q => absurd (show (0 : Int) = 1 from q) (by decide)⟩
/-- the last number of an entry, and what follows -/
theorem X_last (hf : ∀ j : Nat, j < n → fc j = fr j) (hxo : x < o ∨ o + 5 ≤ x) (hn : n ≤ 120) {p : Nat} {tl : Int} {T : Nat → Int} {m : ja_M} (hp : p ≤ n) (h2 : m x 2 = 4) (h3 : m x 3 = 0) (h4 : m x 4 = 0) (ho : m o 4 = tl) (h0 : 0 ≤ tl ∧ tl < 24) (ht : X_te o m T tl) (k5 : m x 5 = T (4 * tl).toNat) (k6 : m x 6 = T (4 * tl + 1).toNat) (k7 : ¬ T (4 * tl).toNat = 0 → m x 7 = T (4 * tl + 2).toNat) : X_cc fc x o n p m (N_e3 fr n p tl T) := by
  obtain ⟨a1, a2⟩ := X_num (o := o) hf hp (by omega : ¬ m x 2 = 0) h3 h4
  have eon : X_eon m x = 59 := by
    unfold X_eon
    rw [h2]
    rfl
  rw [eon] at a1 a2
  unfold N_e3 X_cc
  by_cases hz : (N_nm fr n 4 p (-1)).1 < 0
  · rw [if_pos hz]
    exact ⟨fun _ => a1 (Or.inl hz), fun q => by simp at q⟩
  · rw [if_neg hz]
    dsimp only
    by_cases hh : N_he fr n (N_nm fr n 4 p (-1)).2 = 59
    · have hb : ja_b (N_he fr n (N_nm fr n 4 p (-1)).2 = 59) = 1 := if_pos hh
      rw [hb]
      refine ⟨fun q => by omega, fun _ => ?_⟩
      obtain ⟨m', p', g1, g2, g3, g4, g5, g6⟩ := a2 hz hh
      clear a1 a2
      have s2 : m' x 2 = 4 := (g1 x 2 (by omega)).trans h2
      have so : ∀ c j, c < 5 → m' (o + c) j = m (o + c) j := fun c j hc => g1 (o + c) j (by omega)
      have o4 : m' o 4 = tl := (so 0 4 (by omega)).trans ho
      have e1 : X_en m' x o = X_ex (A_add m' o (m' x 5) (m' x 6) (m' x 7) (m' x 4)) x 0 := by
        rw [X_en, if_neg (by omega), if_neg (by omega), if_pos s2]
      have hA : A_add m' o (m' x 5) (m' x 6) (m' x 7) (m' x 4) = ja_up (ja_up (ja_up (ja_up (ja_up m' (o + 1) (m' o 4).toNat (m' x 5)) (o + 2) (m' o 4).toNat (m' x 6)) (o + 3) (m' o 4).toNat (m' x 7)) (o + 4) (m' o 4).toNat (m' x 4)) o 4 (m' o 4 + 1) := by
        rw [A_add, if_pos (by omega)]
      refine ⟨X_en m' x o, p' + 1, by rw [g3]; omega, by omega, g6, ?_, ?_, ?_⟩
      · rw [e1]
        exact X_ex_2.1
      · rw [e1, X_ex_n (by omega), hA, ja_up_s, o4]
      · intro i hi
        have n5 : m' x 5 = m x 5 := g1 x 5 (by omega)
        have n6 : m' x 6 = m x 6 := g1 x 6 (by omega)
        have n7 : m' x 7 = m x 7 := g1 x 7 (by omega)
        rw [e1, X_ex_n (by omega), X_ex_n (by omega), X_ex_n (by omega), X_ex_n (by omega), hA, o4]
        by_cases hit : (i : Int) = tl
        · have ht2 : tl.toNat = i := by omega
          rw [ht2]
          have j1 : (4 * tl).toNat = 4 * i := by omega
          have j2 : (4 * tl + 1).toNat = 4 * i + 1 := by omega
          have j3 : (4 * tl + 2).toNat = 4 * i + 2 := by omega
          have j4 : (4 * tl + 3).toNat = 4 * i + 3 := by omega
          rw [j1] at k5 k7
          rw [j2] at k6
          rw [j3] at k7
          rw [j4, ja_rs_n (show 4 * i ≠ 4 * i + 3 by omega), ja_rs_n (show 4 * i + 1 ≠ 4 * i + 3 by omega), ja_rs_n (show 4 * i + 2 ≠ 4 * i + 3 by omega), ja_rs_s]
          refine ⟨?_, ?_, fun q => ?_, ?_⟩
          · rw [ja_up_a (by omega), ja_up_a (by omega), ja_up_a (by omega), ja_up_a (by omega), ja_up_s, n5, k5]
          · rw [ja_up_a (by omega), ja_up_a (by omega), ja_up_a (by omega), ja_up_s, n6, k6]
          · rw [ja_up_a (by omega), ja_up_a (by omega), ja_up_s, n7, k7 q]
          · rw [ja_up_a (by omega), ja_up_s, g2]
        · have hlt : (i : Int) < tl := by omega
          obtain ⟨t1, t2, t3, t4⟩ := ht i hlt
          rw [ja_rs_n (show 4 * i ≠ (4 * tl + 3).toNat by omega), ja_rs_n (show 4 * i + 1 ≠ (4 * tl + 3).toNat by omega), ja_rs_n (show 4 * i + 2 ≠ (4 * tl + 3).toNat by omega), ja_rs_n (show 4 * i + 3 ≠ (4 * tl + 3).toNat by omega)]
          refine ⟨?_, ?_, fun q => ?_, ?_⟩
          · rw [ja_up_x (by omega), ja_up_x (by omega), ja_up_x (by omega), ja_up_x (by omega), ja_up_x (by omega), so 1 i (by omega), t1]
          · rw [ja_up_x (by omega), ja_up_x (by omega), ja_up_x (by omega), ja_up_x (by omega), ja_up_x (by omega), so 2 i (by omega), t2]
          · rw [ja_up_x (by omega), ja_up_x (by omega), ja_up_x (by omega), ja_up_x (by omega), ja_up_x (by omega), so 3 i (by omega), t3 q]
          · rw [ja_up_x (by omega), ja_up_x (by omega), ja_up_x (by omega), ja_up_x (by omega), ja_up_x (by omega), so 4 i (by omega), t4]
    · have hb : ja_b (N_he fr n (N_nm fr n 4 p (-1)).2 = 59) = 0 := if_neg hh
      rw [hb]
      exact ⟨fun _ => by rw [Int.add_zero]; exact a1 (Or.inr hh), fun q => by omega⟩
/-- what a part of an entry leaves alone -/
theorem X_te_c {m m' : ja_M} {T : Nat → Int} {tl : Int} (h : ∀ c j, 1 ≤ c → c ≤ 4 → m' (o + c) j = m (o + c) j) (ht : X_te o m T tl) : X_te o m' T tl := fun i hi => by
  rw [h 1 i (by omega) (by omega), h 2 i (by omega) (by omega), h 3 i (by omega) (by omega), h 4 i (by omega) (by omega)]
  exact ht i hi
theorem X_te_T {m : ja_M} {T T' : Nat → Int} {tl : Int} (h : ∀ j : Nat, (j : Int) < 4 * tl → T' j = T j) (ht : X_te o m T tl) : X_te o m T' tl := fun i hi => by
  rw [h (4 * i) (by omega), h (4 * i + 1) (by omega), h (4 * i + 2) (by omega), h (4 * i + 3) (by omega)]
  exact ht i hi
theorem N_et_v {T : Nat → Int} {tl e a : Int} (h0 : 0 ≤ tl) : N_et T tl e a (4 * tl).toNat = e ∧ N_et T tl e a (4 * tl + 1).toNat = a ∧ N_et T tl e a (4 * tl + 2).toNat = 0 ∧ ∀ j : Nat, (j : Int) < 4 * tl → N_et T tl e a j = T j := by
  unfold N_et
  refine ⟨?_, ?_, ?_, fun j hj => ?_⟩
  · rw [ja_rs_n (show (4 * tl).toNat ≠ (4 * tl + 2).toNat by omega), ja_rs_n (show (4 * tl).toNat ≠ (4 * tl + 1).toNat by omega), ja_rs_s]
  · rw [ja_rs_n (show (4 * tl + 1).toNat ≠ (4 * tl + 2).toNat by omega), ja_rs_s]
  · rw [ja_rs_s]
  · rw [ja_rs_n (show j ≠ (4 * tl + 2).toNat by omega), ja_rs_n (show j ≠ (4 * tl + 1).toNat by omega), ja_rs_n (show j ≠ (4 * tl).toNat by omega)]
/-- a number with the time behind it -/
theorem X_mid (hf : ∀ j : Nat, j < n → fc j = fr j) (hxo : x < o ∨ o + 5 ≤ x) (hn : n ≤ 120) {p : Nat} {tl : Int} {T : Nat → Int} {m : ja_M} (hp : p ≤ n) (h2 : m x 2 = 1 ∨ m x 2 = 3) (h3 : m x 3 = 0) (h4 : m x 4 = 0) (ho : m o 4 = tl) (h0 : 0 ≤ tl ∧ tl < 24) (ht : X_te o m T tl) (k5 : m x 5 = T (4 * tl).toNat) (k1 : m x 2 = 1 → T (4 * tl).toNat = 0 ∧ T (4 * tl + 1).toNat = (N_nm fr n 4 p (-1)).1 ∧ 0 ≤ (N_nm fr n 4 p (-1)).1 ∧ T (4 * tl + 2).toNat = 0) (k3 : m x 2 = 3 → m x 6 = T (4 * tl + 1).toNat ∧ T (4 * tl + 2).toNat = (N_nm fr n 4 p (-1)).1) : X_cc fc x o n p m (N_e2 fr n (N_nm fr n 4 p (-1)).2 tl T) := by
  have hm2 : ¬ m x 2 = 0 := by omega
  obtain ⟨a1, a2⟩ := X_num (o := o) hf hp hm2 h3 h4
  have eon : X_eon m x = 64 := by
    unfold X_eon
    rw [if_neg (by omega), if_neg (by omega)]
  rw [eon] at a1 a2
  unfold N_e2
  by_cases hz : T (4 * tl + 2).toNat < 0
  · rw [if_pos hz]
    refine X_cc_0 (a1 (Or.inl ?_))
    rcases h2 with q | q
    · have := (k1 q).2.2.2
      omega
    · have := (k3 q).2
      omega
  · rw [if_neg hz]
    have hz1 : ¬ (N_nm fr n 4 p (-1)).1 < 0 := by
      rcases h2 with q | q
      · have := (k1 q).2.2.1
        omega
      · have := (k3 q).2
        omega
    by_cases hh : N_he fr n (N_nm fr n 4 p (-1)).2 = 64
    · rw [if_pos hh]
      obtain ⟨m', p', g1, g2, g3, g4, g5, g6⟩ := a2 hz1 hh
      clear a1 a2
      rw [g3, show ((p' : Int) + 1) = ((p' + 1 : Nat) : Int) by omega]
      refine X_cc_e g6 ?_
      have s2 : m' x 2 = m x 2 := g1 x 2 (by omega)
      have s5 : m' x 5 = m x 5 := g1 x 5 (by omega)
      have s6 : m' x 6 = m x 6 := g1 x 6 (by omega)
      have so : ∀ c j, c < 5 → m' (o + c) j = m (o + c) j := fun c j hc => g1 (o + c) j (by omega)
      have o4 : m' o 4 = tl := (so 0 4 (by omega)).trans ho
      rcases h2 with q | q
      · obtain ⟨t0, t1, t2, t3⟩ := k1 q
        have e1 : X_en m' x o = X_ex (ja_up m' x 6 (m' x 4)) x 4 := by
          rw [X_en, if_neg (by omega), if_neg (by omega), if_neg (by omega)]
        rw [e1]
        refine X_last hf hxo hn (by omega) X_ex_2.1 X_ex_2.2.1 X_ex_2.2.2 ?_ h0 ?_ ?_ ?_ (fun r => absurd t0 r)
        · rw [X_ex_n (by omega), ja_up_x (by omega)]
          exact o4
        · exact X_te_c (fun c j c1 c2 => by rw [X_ex_n (by omega), ja_up_x (by omega)]; exact so c j (by omega)) ht
        · rw [X_ex_n (by omega), ja_up_x (by omega), s5]
          exact k5
        · rw [X_ex_n (by omega), ja_up_s, g2]
          exact t1.symm
      · obtain ⟨t0, t1⟩ := k3 q
        have e1 : X_en m' x o = X_ex (ja_up m' x 7 (m' x 4)) x 4 := by
          rw [X_en, if_neg (by omega), if_pos (by omega)]
        rw [e1]
        refine X_last hf hxo hn (by omega) X_ex_2.1 X_ex_2.2.1 X_ex_2.2.2 ?_ h0 ?_ ?_ ?_ (fun _ => ?_)
        · rw [X_ex_n (by omega), ja_up_x (by omega)]
          exact o4
        · exact X_te_c (fun c j c1 c2 => by rw [X_ex_n (by omega), ja_up_x (by omega)]; exact so c j (by omega)) ht
        · rw [X_ex_n (by omega), ja_up_x (by omega), s5]
          exact k5
        · rw [X_ex_n (by omega), ja_up_x (by omega), s6]
          exact t0
        · rw [X_ex_n (by omega), ja_up_s, g2]
          exact t1.symm
    · rw [if_neg hh]
      exact X_cc_0 (a1 (Or.inr hh))
/-- an entry -/
theorem X_ent (hf : ∀ j : Nat, j < n → fc j = fr j) (hxo : x < o ∨ o + 5 ≤ x) (hn : n ≤ 120) {p : Nat} {tl : Int} {T : Nat → Int} {m : ja_M} (hp : p < n) (hr : X_rd x o m T tl) (h0 : 0 ≤ tl ∧ tl < 24) : X_cc fc x o n p m (N_en fr n p tl T) := by
  obtain ⟨r1, r2, r3⟩ := hr
  have hc : N_he fr n p = fc p := by
    unfold N_he
    rw [if_pos (by omega), hf p hp]
    rfl
  have ef : X_fb m x (fc p) = ja_b (fc p = 100 ∨ fc p = 114 ∨ fc p = 99) := by rw [X_fb, if_pos r1]
  have em : X_fm m x o (fc p) = X_be m x (fc p) := by rw [X_fm, if_pos r1]
  have e0 : X_lp fc x o n (n - p) p m = if X_fb m x (fc p) = 0 then ((p : Int), X_fm m x o (fc p)) else X_lp fc x o n (n - (p + 1)) (p + 1) (X_fm m x o (fc p)) := by
    rw [show n - p = (n - (p + 1)) + 1 by omega]
    rfl
  unfold N_en
  by_cases hk : N_he fr n p = 100 ∨ N_he fr n p = 114 ∨ N_he fr n p = 99
  · rw [if_pos hk]
    have hb : X_fb m x (fc p) = 1 := by
      rw [ef]
      exact if_pos (by rw [← hc]; exact hk)
    rw [hb, if_neg (by decide), em] at e0
    refine X_cc_e e0 ?_
    rw [show ((p : Int) + 1) = ((p + 1 : Nat) : Int) by omega]
    obtain ⟨v0, v1, v2, v3⟩ := N_et_v (T := T) (tl := tl) (e := N_e0 (N_he fr n p)) (a := (N_nm fr n 4 ((p + 1 : Nat) : Int) (-1)).1) h0.1
    by_cases hd : N_he fr n p = 100
    · have b1 : X_be m x (fc p) = X_ex (ja_up m x 5 0) x 1 := by rw [X_be, if_pos (by omega)]
      have e00 : N_e0 (N_he fr n p) = 0 := if_pos hd
      rw [e00] at v0 v1 v2 v3
      rw [b1, e00]
      have f2 : X_ex (ja_up m x 5 0) x 1 x 2 = 1 := X_ex_2.1
      have f5 : X_ex (ja_up m x 5 0) x 1 x 5 = 0 := by rw [X_ex_n (by omega), ja_up_s]
      have eon : X_eon (X_ex (ja_up m x 5 0) x 1) x = 64 := by
        unfold X_eon
        rw [if_neg (by omega), if_neg (by omega)]
      by_cases hz : (N_nm fr n 4 ((p + 1 : Nat) : Int) (-1)).1 < 0
      · rw [if_pos hz]
        exact X_cc_0 ((X_num (o := o) hf (by omega) (by rw [f2]; decide) X_ex_2.2.1 X_ex_2.2.2).1 (Or.inl hz))
      · rw [if_neg hz]
        unfold N_e1
        rw [if_pos (show (0 : Int) ≤ 0 by decide)]
        refine X_mid hf hxo hn (by omega) (Or.inl f2) X_ex_2.2.1 X_ex_2.2.2 ?_ h0 ?_ ?_ (fun _ => ⟨v0, v1, by omega, v2⟩) (fun q => absurd (f2.symm.trans q) (by decide))
        · rw [X_ex_n (by omega), ja_up_x (by omega)]
          exact r2
        · exact X_te_T v3 (X_te_c (fun c j c1 c2 => by rw [X_ex_n (by omega), ja_up_x (by omega)]) r3)
        · rw [f5, v0]
    · have b1 : X_be m x (fc p) = X_ex (ja_up m x 5 (N_e0 (N_he fr n p))) x 2 := by
        rw [X_be, if_neg (by omega), hc]
        unfold N_e0
        by_cases h14 : fc p = 114
        · rw [if_pos h14, if_neg (by omega), if_pos h14]
        · rw [if_neg h14, if_pos (by omega), if_neg (by omega), if_neg h14]
      have hpos : ¬ N_e0 (N_he fr n p) ≤ 0 := by
        unfold N_e0
        rw [if_neg hd]
        split <;> omega
      rw [b1]
      have f2 : X_ex (ja_up m x 5 (N_e0 (N_he fr n p))) x 2 x 2 = 2 := X_ex_2.1
      have f5 : X_ex (ja_up m x 5 (N_e0 (N_he fr n p))) x 2 x 5 = N_e0 (N_he fr n p) := by rw [X_ex_n (by omega), ja_up_s]
      have fo : X_ex (ja_up m x 5 (N_e0 (N_he fr n p))) x 2 o 4 = tl := by
        rw [X_ex_n (by omega), ja_up_x (by omega)]
        exact r2
      have ft : X_te o (X_ex (ja_up m x 5 (N_e0 (N_he fr n p))) x 2) T tl := X_te_c (fun c j c1 c2 => by rw [X_ex_n (by omega), ja_up_x (by omega)]) r3
      have f3 : X_ex (ja_up m x 5 (N_e0 (N_he fr n p))) x 2 x 3 = 0 := X_ex_2.2.1
      have f4 : X_ex (ja_up m x 5 (N_e0 (N_he fr n p))) x 2 x 4 = 0 := X_ex_2.2.2
      generalize X_ex (ja_up m x 5 (N_e0 (N_he fr n p))) x 2 = m1 at *
      generalize N_e0 (N_he fr n p) = e at *
      have eon : X_eon m1 x = 46 := if_pos f2
      obtain ⟨a1, a2⟩ := X_num (o := o) (p := p + 1) (m := m1) hf (by omega) (by omega) f3 f4
      rw [eon] at a1 a2
      by_cases hz : (N_nm fr n 4 ((p + 1 : Nat) : Int) (-1)).1 < 0
      · rw [if_pos hz]
        exact X_cc_0 (a1 (Or.inl hz))
      · rw [if_neg hz]
        unfold N_e1
        rw [if_neg hpos]
        by_cases hh : N_he fr n (N_nm fr n 4 ((p + 1 : Nat) : Int) (-1)).2 = 46
        · rw [if_pos hh]
          obtain ⟨m', p', g1, g2, g3, g4, g5, g6⟩ := a2 hz hh
          clear a1 a2
          rw [g3, show ((p' : Int) + 1) = ((p' + 1 : Nat) : Int) by omega]
          refine X_cc_e g6 ?_
          have s2 : m' x 2 = 2 := (g1 x 2 (by omega)).trans f2
          have s5 : m' x 5 = e := (g1 x 5 (by omega)).trans f5
          have so : ∀ c j, c < 5 → m' (o + c) j = m1 (o + c) j := fun c j hc => g1 (o + c) j (by omega)
          have o4 : m' o 4 = tl := (so 0 4 (by omega)).trans fo
          have e1 : X_en m' x o = X_ex (ja_up m' x 6 (m' x 4)) x 3 := by rw [X_en, if_pos s2]
          rw [e1]
          have w2 : X_ex (ja_up m' x 6 (m' x 4)) x 3 x 2 = 3 := X_ex_2.1
          refine X_mid hf hxo hn (by omega) (Or.inr w2) X_ex_2.2.1 X_ex_2.2.2 ?_ h0 ?_ ?_ (fun q => absurd (w2.symm.trans q) (by decide)) (fun _ => ⟨?_, ?_⟩)
          · rw [X_ex_n (by omega), ja_up_x (by omega)]
            exact o4
          · refine X_te_T (fun j hj => ?_) (X_te_c (fun c j c1 c2 => by rw [X_ex_n (by omega), ja_up_x (by omega)]; exact so c j (by omega)) ft)
            rw [ja_rs_n (by omega)]
            exact v3 j hj
          · rw [X_ex_n (by omega), ja_up_x (by omega), s5, ja_rs_n (by omega)]
            exact v0.symm
          · rw [X_ex_n (by omega), ja_up_s, g2, ja_rs_n (by omega)]
            exact v1.symm
          · rw [ja_rs_s]
        · rw [if_neg hh]
          exact X_cc_0 (a1 (Or.inr hh))
  · rw [if_neg hk]
    have hb : X_fb m x (fc p) = 0 := by
      rw [ef]
      exact if_neg (by rw [← hc]; exact hk)
    rw [hb, if_pos rfl] at e0
    exact X_cc_0 (by rw [e0])
/-- the whole text -/
theorem X_par (hf : ∀ j : Nat, j < n → fc j = fr j) (hxo : x < o ∨ o + 5 ≤ x) (hn : n ≤ 120) : ∀ (k p : Nat) (tl : Int) (T : Nat → Int) (m : ja_M), p ≤ n → 125 ≤ p + 5 * k → 0 ≤ tl → 5 * tl ≤ p → X_rd x o m T tl → ((N_tx fr n k p tl T).1 = 0 → (X_lp fc x o n (n - p) p m).1 = (N_tx fr n k p tl T).2.1) ∧ ((N_tx fr n k p tl T).1 = 1 → (X_lp fc x o n (n - p) p m).1 = -1004 ∧ X_rd x o (X_lp fc x o n (n - p) p m).2 (N_tx fr n k p tl T).2.2.2 (N_tx fr n k p tl T).2.2.1)
  | 0, p, tl, T, m, hp, hk, h0, h5, hr => by omega
  | k + 1, p, tl, T, m, hp, hk, h0, h5, hr => by
    simp only [N_tx]
    by_cases hlt : (p : Int) < n
    · rw [if_pos hlt]
      obtain ⟨c1, c2⟩ := X_ent hf hxo hn (p := p) (by omega) hr ⟨h0, by omega⟩
      obtain ⟨d1, d2, d3, d4, d5⟩ := @N_en_p fr n p tl T h0 (by omega)
      by_cases hE : (N_en fr n p tl T).1 = 0
      · rw [if_pos hE]
        exact ⟨c1, fun q => by omega⟩
      · rw [if_neg hE]
        have hE1 : (N_en fr n p tl T).1 = 1 := by omega
        obtain ⟨m', p', g1, g2, g3, g4⟩ := c2 hE1
        obtain ⟨d31, d32, d33⟩ := d3 hE1
        rw [g3, g1]
        exact X_par hf hxo hn k p' _ _ m' g2 (by omega) (by omega) (by omega) g4
    · rw [if_neg hlt]
      have hpn : p = n := by omega
      subst hpn
      rw [Nat.sub_self]
      have e : X_lp fc x o p 0 p m = (-1004, m) := by
        show ((if m x 2 = 0 then (-1004 : Int) else (p : Int)), m) = _
        rw [if_pos hr.1]
      rw [e]
      exact ⟨fun q => absurd (show (1 : Int) = 0 from q) (by decide), fun _ => ⟨rfl, hr⟩⟩
end
/-- THE TEXT'S FAULT, AND WHAT IT DESCRIBES -/
theorem B_txt {mem : ja_M} {y : Nat} {G : ja_M} {g : Nat} (hH : ja_HO mem (y + 42)) (hx : L_x mem y G g) : ((N_rdt G g).1 = 0 → (B_rd mem y).1 = (N_rdt G g).2.1) ∧ ((N_rdt G g).1 = 1 → (B_rd mem y).1 = -1004 ∧ X_rd (y + 42) (y + 44) (B_rd mem y).2 (N_rdt G g).2.2.2 (N_rdt G g).2.2.1) := by
  have hl := hH.1
  obtain ⟨x1, x2⟩ := hx
  have hn : (((mem (y + 42) 1).toNat : Nat) : Int) = mem (y + 42) 1 := by omega
  have h := X_par (fc := mem (y + 42 + 1)) (fr := G (g + 5)) (x := y + 42) (o := y + 44) (n := (mem (y + 42) 1).toNat) (fun j hj => x2 j (by omega)) (by omega) (by omega) 25 0 0 (G (g + 8)) (ja_up (ja_up mem (y + 44) 4 0) (y + 42) 2 0) (by omega) (by omega) (by omega) (by omega) ⟨ja_up_s _ _ _ _, by rw [ja_up_a (by omega), ja_up_s], fun i hi => by omega⟩
  rw [hn, Nat.sub_zero] at h
  unfold N_rdt B_rd
  rw [← x1]
  exact h
theorem B_fp_N {mem : ja_M} {y : Nat} {G : ja_M} {g : Nat} (hH : ja_HO mem (y + 42)) (hx : L_x mem y G g) (hT : N_TO G g) : (B_rd mem y).1 = if (N_rdt G g).1 = 0 then (N_rdt G g).2.1 else -1004 := by
  obtain ⟨p0, p1⟩ := B_txt hH hx
  obtain ⟨x1, -⟩ := @N_tx_p (G (g + 5)) (G g 5) 25 0 0 (G (g + 8)) (by omega) (by omega) hT.1.1 (by omega) (fun i i0 i1 => by omega)
  rw [show N_tx (G (g + 5)) (G g 5) 25 0 0 (G (g + 8)) = N_rdt G g from rfl] at x1
  by_cases h : (N_rdt G g).1 = 0
  · rw [if_pos h]
    exact p0 h
  · rw [if_neg h]
    exact (p1 (by omega)).1
end
section
-- TIES THAT LEAVE THE SCHEDULE OUT, AND THE SCHEDULE BESIDE THEM
/-- the schedule of both -/
def L_p (mem : ja_M) (b : Nat) (v : Nat → Int) : Prop := mem (b + 15) 4 = v 25 ∧ v 25 ≤ 24 ∧ X_te (b + 15) mem (fun j => v (2388 + j)) (v 25)
/-- settings, time, start -/
def S_b : S_T := fun mem b v => (∀ j, j < 9 → mem (b + 1) j = v j) ∧ mem b 6 = v 9 ∧ ((mem b 7 = 0 ∧ v 10 < 0) ∨ (mem b 7 = 1 ∧ 0 ≤ v 10 ∧ mem b 8 = v 10)) ∧ (mem b 7 = 0 → (∀ c j, 3 ≤ c → c ≤ 5 → j < 250 → mem (b + c) j = 0) ∧ ∀ j, 30 ≤ j → j < 2054 → v j = 0)
def Y_cg (A : S_T) : Prop := ∀ (mem mem' : ja_M) (b : Nat) (v v' : Nat → Int), (∀ q, b ≤ q → q < b + 15 → mem' q = mem q) → (∀ j, j < 2388 → j ≠ 25 → j ≠ 27 → v' j = v j) → A mem b v → A mem' b v'
def Y_s1 (A : S_T) : Prop := ∀ (mem : ja_M) (b : Nat) (v : Nat → Int) (j : Nat) (z : Int), j < 6 → mem b 7 = 0 → v 10 < 0 → A mem b v → A (ja_up mem (b + 1) j z) b (ja_rs v j z)
def Y_s3 (A : S_T) : Prop := ∀ (mem : ja_M) (b : Nat) (v : Nat → Int) (j : Nat) (z : Int), 6 ≤ j → j < 9 → A mem b v → A (ja_up mem (b + 1) j z) b (ja_rs v j z)
def Y_ap (A : S_T) : Prop := ∀ (mem : ja_M) (b : Nat) (v : Nat → Int) (t r k i : Int), ja_RO mem b t → N_O v t → t ≤ 900000 → (0 ≤ r ∧ r ≤ 1) → N_hP v r k i → A mem b v → A (R_ap mem b r k i) b (N_qv v r k i)
def Y_pl (A : S_T) : Prop := ∀ (mem : ja_M) (b : Nat) (v : Nat → Int) (t : Int), ja_RO mem b t → N_O v t → t ≤ 900000 → A mem b v → A (R_pl mem b) b (N_pl v)
def Y_tm (A : S_T) : Prop := ∀ (mem : ja_M) (b : Nat) (v : Nat → Int), A mem b v → A (ja_up mem b 6 (mem b 6 + 1)) b (ja_rs v 9 (v 9 + 1))
/-- what such a tie must bear -/
def Y_ok (A : S_T) : Prop := (∀ mem b v, A mem b v → S_b mem b v) ∧ Y_cg A ∧ S_cy A ∧ Y_s1 A ∧ Y_s3 A ∧ S_af A ∧ Y_ap A ∧ Y_pl A ∧ Y_tm A ∧ S_in A
/-- the tie with the schedule -/
def Y_S (A : S_T) : S_T := fun mem b v => A mem b v ∧ L_p mem b v
theorem L_p_cg {mem mem' : ja_M} {b : Nat} {v v' : Nat → Int} (hm : ∀ q, b + 15 ≤ q → q < b + 20 → mem' q = mem q) (hv : ∀ j, (j = 25 ∨ 2388 ≤ j) → j < 2484 → v' j = v j) (h : L_p mem b v) : L_p mem' b v' := by
  obtain ⟨h1, h2, h3⟩ := h
  have e25 := hv 25 (Or.inl rfl) (by omega)
  refine ⟨by rw [hm _ (by omega) (by omega), e25]; exact h1, by rw [e25]; exact h2, ?_⟩
  rw [e25]
  refine X_te_T (fun j hj => hv _ (by omega) (by omega)) (X_te_c (fun c j c1 c2 => by rw [hm _ (by omega) (by omega)]) h3)
theorem S_b_bg {mem : ja_M} {b : Nat} {v : Nat → Int} (h : S_b mem b v) (hL : L_p mem b v) : R_bg mem b ↔ N_bg v := by
  obtain ⟨-, -, hs, -⟩ := h
  have h1 := hL.1
  unfold R_bg N_bg
  omega
theorem N_pl_p {a : Nat → Int} {t : Int} (h : N_O a t) {j : Nat} (hj : j = 25 ∨ 2388 ≤ j) : N_pl a j = a j := by
  have e2 : N_t2 a j = a j := by
    unfold N_t2
    split
    · rename_i hc
      rw [ja_rs_n (by omega)]
      exact (N_tk_O h hc.2).2.2.2 j (by omega)
    · rfl
  have hC := (N_t2_O h).1.1.C
  unfold N_pl
  split
  · unfold N_t3
    split
    · rw [ja_rs_n (by omega), ja_rs_n (by omega), ja_rs_n (by omega)]
      exact e2
    · exact e2
  · rfl
/-- what is due arrives; the rest is kept -/
theorem Y_du {A : S_T} (h : Y_ok A) {mem D : ja_M} {b : Nat} {v : Nat → Int} {t : Int} (hR : ja_RO mem b t) (hO : N_O v t) (ht : t ≤ 900000) (hA : A mem b v) (hL : L_p mem b v) (hD : ∀ q, b + 15 ≤ q → D q = mem q) : ∀ i : Nat, (i : Int) ≤ v 25 → A (R_du mem b i) b (N_ab v i).2 ∧ (∀ j : Nat, i ≤ j → j < 24 → ∀ c : Nat, c < 4 → (N_ab v i).2 (2388 + (4 * j + c)) = v (2388 + (4 * j + c))) ∧ (N_ab v i).1 = A_rem D (b + 15) (mem b 6) i (b + 15) 4 ∧ X_te (b + 15) (A_rem D (b + 15) (mem b 6) i) (fun j => (N_ab v i).2 (2388 + j)) (N_ab v i).1
  | 0, _ => ⟨hA, fun _ _ _ _ _ => rfl, by simp only [A_rem, N_ab]; rw [ja_up_s], fun i hi => by simp only [N_ab] at hi; omega⟩
  | i + 1, hi => by
    obtain ⟨iA, iE, iS, iT⟩ := Y_du h hR hO ht hA hL hD i (by omega)
    obtain ⟨hOw, ⟨l0, l1⟩, hk⟩ := N_ab_O hO ht i (by omega)
    have hC := hO.1.C
    have hb := h.1 _ _ _ hA
    obtain ⟨g0, g1, g2, g3⟩ := hL.2.2 i (by omega)
    dsimp only at g0 g1 g2 g3
    have hpe := hOw.2.2 (i : Int) (by omega) (by rw [hk 25 (by omega) (by omega)]; omega)
    have hp1 := hOw.1.P (j := (2388 + 4 * (i : Int) + 1).toNat) (by omega) (by omega)
    have e9 : (N_ab v i).2 9 = mem b 6 := (hk 9 (by omega) (by omega)).trans hb.2.1.symm
    have e0 : (N_ab v i).2 (2388 + 4 * (i : Int)).toNat = mem (b + 15 + 1) i := by
      rw [show (2388 + 4 * (i : Int)).toNat = 2388 + (4 * i + 0) by omega, iE i (Nat.le_refl _) (by omega) 0 (by omega)]
      exact g0.symm
    have e1 : (N_ab v i).2 (2388 + 4 * (i : Int) + 1).toNat = mem (b + 15 + 2) i := by
      rw [show (2388 + 4 * (i : Int) + 1).toNat = 2388 + (4 * i + 1) by omega, iE i (Nat.le_refl _) (by omega) 1 (by omega), g1]
    have e2 : ¬ mem (b + 15 + 1) i = 0 → (N_ab v i).2 (2388 + 4 * (i : Int) + 2).toNat = mem (b + 15 + 3) i := fun q => by
      rw [show (2388 + 4 * (i : Int) + 2).toNat = 2388 + (4 * i + 2) by omega, iE i (Nat.le_refl _) (by omega) 2 (by omega), g2 (by rw [← g0]; exact q)]
    have e3 : (N_ab v i).2 (2388 + 4 * (i : Int) + 3).toNat = mem (b + 15 + 4) i := by
      rw [show (2388 + 4 * (i : Int) + 3).toNat = 2388 + (4 * i + 3) by omega, iE i (Nat.le_refl _) (by omega) 3 (by omega), g3]
    have hRi := R_du_RO hR ht i (by have := hL.1; omega)
    obtain ⟨-, cg, -, -, -, af, ap, -⟩ := id h
    simp only [N_ab, R_du, A_rem]
    generalize (N_ab v i).2 = w at *
    generalize (N_ab v i).1 = l at *
    rw [e3, e9, e0, e1, hD (b + 15 + 4) (by omega)]
    by_cases hd : mem (b + 15 + 4) i = mem b 6
    · rw [if_pos hd, if_pos hd, if_pos hd]
      dsimp only
      by_cases hz : mem (b + 15 + 1) i = 0
      · rw [if_pos hz, if_pos hz]
        have hx : 0 ≤ mem (b + 15 + 2) i ∧ mem (b + 15 + 2) i ≤ 999 := by
          have h5 := hpe.2.1 (e0.trans hz)
          rw [e1] at h5 hp1
          exact ⟨hp1.1, h5⟩
        have hkb := (N_av_O hOw ht hx).2
        exact ⟨af _ b w t _ hRi hOw ht hx iA, fun j hj h24 c hc => (hkb _ (by omega) (by omega)).trans (iE j (by omega) h24 c hc), iS, X_te_T (fun j hj => hkb _ (by omega) (by omega)) iT⟩
      · rw [if_neg hz, if_neg hz, e2 hz]
        have hP := hpe.2.2 (by rw [e0]; exact hz)
        rw [e0, e1, e2 hz] at hP
        have hkb := (N_qv_O (r := if mem (b + 15 + 1) i = 1 then 1 else 0) hOw ht hP.1 (N_hP_6 hOw.1.S hP)).2
        exact ⟨ap _ b w t _ _ _ hRi hOw ht ja_b_r hP iA, fun j hj h24 c hc => (hkb _ (by omega) (by omega)).trans (iE j (by omega) h24 c hc), iS, X_te_T (fun j hj => hkb _ (by omega) (by omega)) iT⟩
    · rw [if_neg hd, if_neg hd, if_neg hd]
      dsimp only
      have hlt : A_rem D (b + 15) (mem b 6) i (b + 15) 4 < 24 := by omega
      have hnn : ∀ q : Nat, ((q : Int) < 2388 + 4 * l ∨ (2388 + 4 * l + 4 : Int) ≤ (q : Int)) → N_c4 w (2388 + 4 * l) (2388 + 4 * (i : Int)) 4 q = w q := fun q hq => N_c4_n 4 (fun c hc => by omega)
      have hcs : ∀ c : Nat, c < 4 → N_c4 w (2388 + 4 * l) (2388 + 4 * (i : Int)) 4 (2388 + 4 * l + c).toNat = w (2388 + 4 * (i : Int) + c).toNat := N_c4_s (by omega) (by omega) 4 (by omega)
      refine ⟨cg _ _ b w _ (fun _ _ _ => rfl) (fun j hj _ _ => hnn j (by omega)) iA, fun j hj h24 c hc => (hnn _ (by omega)).trans (iE j (by omega) h24 c hc), ?_, ?_⟩
      · unfold A_add
        rw [if_pos hlt, ja_up_s, ← iS]
      · intro j hj
        unfold A_add
        rw [if_pos hlt]
        have hs : (A_rem D (b + 15) (mem b 6) i (b + 15) 4).toNat = l.toNat := by omega
        rw [hs, hD (b + 15 + 1) (by omega), hD (b + 15 + 2) (by omega), hD (b + 15 + 3) (by omega)]
        dsimp only
        by_cases hjl : (j : Int) = l
        · have hjn : l.toNat = j := by omega
          rw [hjn]
          have c0 := hcs 0 (by omega)
          have c1 := hcs 1 (by omega)
          have c2 := hcs 2 (by omega)
          have c3 := hcs 3 (by omega)
          rw [show (2388 + 4 * l + ((0 : Nat) : Int)).toNat = 2388 + 4 * j by omega, show (2388 + 4 * (i : Int) + ((0 : Nat) : Int)).toNat = (2388 + 4 * (i : Int)).toNat by omega, e0] at c0
          rw [show (2388 + 4 * l + ((1 : Nat) : Int)).toNat = 2388 + (4 * j + 1) by omega, show (2388 + 4 * (i : Int) + ((1 : Nat) : Int)).toNat = (2388 + 4 * (i : Int) + 1).toNat by omega, e1] at c1
          rw [show (2388 + 4 * l + ((2 : Nat) : Int)).toNat = 2388 + (4 * j + 2) by omega, show (2388 + 4 * (i : Int) + ((2 : Nat) : Int)).toNat = (2388 + 4 * (i : Int) + 2).toNat by omega] at c2
          rw [show (2388 + 4 * l + ((3 : Nat) : Int)).toNat = 2388 + (4 * j + 3) by omega, show (2388 + 4 * (i : Int) + ((3 : Nat) : Int)).toNat = (2388 + 4 * (i : Int) + 3).toNat by omega, e3] at c3
          rw [c0, c1, c2, c3]
          refine ⟨?_, ?_, fun q => ?_, ?_⟩
          · rw [ja_up_a (by omega), ja_up_a (by omega), ja_up_a (by omega), ja_up_a (by omega), ja_up_s]
          · rw [ja_up_a (by omega), ja_up_a (by omega), ja_up_a (by omega), ja_up_s]
          · rw [ja_up_a (by omega), ja_up_a (by omega), ja_up_s, e2 q]
          · rw [ja_up_a (by omega), ja_up_s]
        · obtain ⟨t0, t1, t2, t3⟩ := iT j (by omega)
          dsimp only at t0 t1 t2 t3
          rw [hnn (2388 + 4 * j) (by omega), hnn (2388 + (4 * j + 1)) (by omega), hnn (2388 + (4 * j + 2)) (by omega), hnn (2388 + (4 * j + 3)) (by omega)]
          have hne : j ≠ l.toNat := by omega
          refine ⟨?_, ?_, fun q => ?_, ?_⟩
          · rw [ja_up_a (by omega), ja_up_a (by omega), ja_up_a (by omega), ja_up_a (by omega), ja_up_j hne]
            exact t0
          · rw [ja_up_a (by omega), ja_up_a (by omega), ja_up_a (by omega), ja_up_j hne, ja_up_a (by omega)]
            exact t1
          · rw [ja_up_a (by omega), ja_up_a (by omega), ja_up_j hne, ja_up_a (by omega), ja_up_a (by omega)]
            exact t2 q
          · rw [ja_up_a (by omega), ja_up_j hne, ja_up_a (by omega), ja_up_a (by omega), ja_up_a (by omega)]
            exact t3
/-- a tick, up to the player -/
theorem Y_due {A : S_T} (h : Y_ok A) {mem : ja_M} {b : Nat} {v : Nat → Int} {t : Int} (hR : ja_RO mem b t) (hO : N_O v t) (ht : t ≤ 900000) (hA : A mem b v) (hL : L_p mem b v) : A (R_due mem b) b (N_t1 v) ∧ L_p (R_due mem b) b (N_t1 v) := by
  have hC := hO.1.C
  obtain ⟨-, cg, -⟩ := id h
  have hsz : (mem (b + 15) 4).toNat = (v 25).toNat := by rw [hL.1]
  obtain ⟨dA, -, dS, dT⟩ := Y_du (D := R_du mem b (v 25).toNat) h hR hO ht hA hL (fun q hq => R_du_o (Or.inl hq) _) (v 25).toNat (by omega)
  obtain ⟨hOw, ⟨l0, l1⟩, hk⟩ := N_ab_O hO ht (v 25).toNat (by omega)
  unfold R_due N_t1 N_as
  rw [hsz]
  refine ⟨cg _ _ b _ _ (fun q q1 q2 => A_rem_o (by omega) _) (fun j _ j25 j27 => by rw [ja_rs_n j27, ja_rs_n j25]) dA, ?_⟩
  have e25 : ja_rs (ja_rs (N_ab v (v 25).toNat).2 25 (N_ab v (v 25).toNat).1) 27 0 25 = (N_ab v (v 25).toNat).1 := by rw [ja_rs_n (by omega), ja_rs_s]
  refine ⟨by rw [e25]; exact dS.symm, by rw [e25]; omega, ?_⟩
  rw [e25]
  exact X_te_T (fun j _ => by rw [ja_rs_n (by omega), ja_rs_n (by omega)]) dT
theorem Y_tk {A : S_T} (h : Y_ok A) : S_tk (Y_S A) := by
  intro mem b v t hR hO ht hS
  obtain ⟨hA, hL⟩ := hS
  obtain ⟨dA, dL⟩ := Y_due h hR hO ht hA hL
  obtain ⟨-, -, -, -, -, -, -, pl, tm, -⟩ := id h
  have hOt := N_t1_O hO ht
  refine ⟨tm _ b _ (pl _ b _ t (R_due_RO hR ht) hOt ht dA), L_p_cg (mem := R_due mem b) (v := N_t1 v) (fun q q1 q2 => ?_) (fun j hj _ => ?_) dL⟩
  · unfold R_tk
    rw [ja_up_row (by omega), R_pl_o (by omega)]
  · unfold N_ti
    rw [ja_rs_n (by omega), N_pl_p hOt hj]
/-- arrival i of a text exists for both or for none -/
theorem B_ca_N {M : ja_M} {y : Nat} {v T : Nat → Int} {tl : Int} (hs : ∀ j, j < 9 → M (y + 1 + 1) j = v j) (h6 : M (y + 1) 6 = v 9) (hT : X_te (y + 44) M T tl) (i : Nat) (hi : (i : Int) < tl) : B_ca M y i ↔ N_ia v T (i : Int) := by
  obtain ⟨t0, t1, t2, t3⟩ := hT i hi
  have n0 : (4 * (i : Int)).toNat = 4 * i := by omega
  have n1 : (4 * (i : Int) + 1).toNat = 4 * i + 1 := by omega
  have n2 : (4 * (i : Int) + 2).toNat = 4 * i + 2 := by omega
  have n3 : (4 * (i : Int) + 3).toNat = 4 * i + 3 := by omega
  unfold B_ca N_ia
  rw [n0, n1, n2, n3, h6, t0, t1, t3]
  by_cases hz : T (4 * i) = 0
  · rw [if_pos hz, if_pos hz]
    exact And.comm
  · rw [if_neg hz, if_neg hz, t2 hz]
    exact And.comm.trans (and_congr_left fun _ => ja_hasP_N hs _ _ _)
theorem B_cas_N {M : ja_M} {y : Nat} {v T : Nat → Int} {tl : Int} (hs : ∀ j, j < 9 → M (y + 1 + 1) j = v j) (h6 : M (y + 1) 6 = v 9) (hT : X_te (y + 44) M T tl) : ∀ r i : Nat, ((i + r : Nat) : Int) ≤ tl → B_cas M y r i = N_cas v T r i
  | 0, _, _ => rfl
  | r + 1, i, h => by
    have hc := B_ca_N hs h6 hT i (by omega)
    simp only [B_cas, N_cas]
    by_cases hz : N_ia v T (i : Int)
    · rw [if_pos hz, if_pos (hc.mpr hz)]
      exact B_cas_N hs h6 hT r (i + 1) (by omega)
    · rw [if_neg hz, if_neg (fun q => hz (hc.mp q))]
/-- what the text says, for both -/
theorem B_sc_N {mem G : ja_M} {y m : Nat} {v : Nat → Int} {t : Int} (hO : N_O v t) (hH : ja_HO mem (y + 42)) (hA : ja_AO mem (y + 44)) (hT : N_TO G m) (hx : L_x mem y G m) (hb : S_b mem (y + 1) v) (hL : L_p mem (y + 1) v) : (B_sc mem y).1 = N_sr v (N_rdt G m) ∧ L_p (B_sc mem y).2 (y + 1) (N_sw v (N_rdt G m)) ∧ (∀ q, q < y + 16 → (B_sc mem y).2 q = mem q) ∧ ∀ j, j < 2388 → j ≠ 25 → N_sw v (N_rdt G m) j = v j := by
  have hC := hO.1.C
  obtain ⟨p0, p1⟩ := B_txt (G := G) (g := m) hH hx
  obtain ⟨r1, r2, r3⟩ := B_rd_all hH hA
  obtain ⟨x1, x2, x3, x4⟩ := @N_tx_p (G (m + 5)) (G m 5) 25 0 0 (G (m + 8)) (by omega) (by omega) hT.1.1 (by omega) (fun i i0 i1 => by omega)
  rw [show N_tx (G (m + 5)) (G m 5) 25 0 0 (G (m + 8)) = N_rdt G m from rfl] at x1 x2 x3 x4
  have hn : ∀ j, j < 2388 → j ≠ 25 → N_sw v (N_rdt G m) j = v j := fun j h1 h2 => N_sw_n (by omega) h1 h2
  have hq : ∀ q, q < y + 42 → (B_rd mem y).2 q = mem q := fun q h1 => r3 q (by omega)
  have hL1 : L_p (B_rd mem y).2 (y + 1) v := L_p_cg (fun q q1 q2 => hq q (by omega)) (fun _ _ _ => rfl) hL
  generalize N_rdt G m = E at *
  unfold B_sc N_sr N_sw at *
  rcases x1 with e0 | e1
  · have hne : ¬ (B_rd mem y).1 = -1004 := by
      rw [p0 e0]
      omega
    rw [if_neg hne, if_pos e0, if_pos e0]
    exact ⟨rfl, hL1, fun q h1 => hq q (by omega), fun _ _ _ => rfl⟩
  · obtain ⟨q1, q2, q3, q4⟩ := p1 e1
    obtain ⟨y1, y2⟩ := x4 e1
    rw [if_pos q1, if_neg (by omega : ¬ E.1 = 0), if_neg (by omega : ¬ E.1 = 0)]
    rw [if_neg (by omega : ¬ E.1 = 0)] at hn
    have hcas : B_cas (B_rd mem y).2 y ((B_rd mem y).2 (y + 44) 4).toNat 0 = N_cas v E.2.2.2 E.2.2.1.toNat 0 := by
      rw [q3]
      refine B_cas_N (fun j hj => ?_) ?_ q4 _ 0 (by omega)
      · rw [hq _ (by omega)]
        exact hb.1 j hj
      · rw [hq _ (by omega)]
        exact hb.2.1
    rw [hcas, hL1.1, q3]
    by_cases hc : N_cas v E.2.2.2 E.2.2.1.toNat 0 = 0
    · rw [if_pos hc, if_pos hc, if_pos hc]
      exact ⟨rfl, hL1, fun q h1 => hq q (by omega), fun _ _ _ => rfl⟩
    · rw [if_neg hc, if_neg hc, if_neg hc]
      rw [if_neg hc] at hn
      by_cases h24 : 24 < v 25 + E.2.2.1
      · rw [if_pos h24, if_pos h24, if_pos h24]
        exact ⟨rfl, hL1, fun q h1 => hq q (by omega), fun _ _ _ => rfl⟩
      · rw [if_neg h24, if_neg h24, if_neg h24]
        rw [if_neg h24] at hn
        dsimp only
        have hs1 := hL1.1
        obtain ⟨a1, a2, a3⟩ := A_all_app (mem := (B_rd mem y).2) (a := y + 1 + 15) (o := y + 44) (by omega) (by omega) E.2.2.1.toNat (by omega)
        have e25 : N_sd v E.2.2.2 E.2.2.1 25 = v 25 + E.2.2.1 := by
          unfold N_sd
          rw [ja_rs_s]
        refine ⟨rfl, ⟨?_, ?_, ?_⟩, fun q h1 => by rw [A_all_o (by omega)]; exact hq q (by omega), hn⟩
        · rw [a1, e25]
          omega
        · rw [e25]
          omega
        · rw [e25]
          intro i hi
          dsimp only
          by_cases hio : (i : Int) < v 25
          · have hk : ∀ c : Nat, c < 4 → N_sd v E.2.2.2 E.2.2.1 (2388 + (4 * i + c)) = v (2388 + (4 * i + c)) := fun c hc4 => by
              unfold N_sd
              rw [ja_rs_n (by omega)]
              exact N_cpp_n (by omega) _ (by omega)
            obtain ⟨t0, t1, t2, t3⟩ := hL1.2.2 i hio
            dsimp only at t0 t1 t2 t3
            have k0 := hk 0 (by omega)
            have k1 := hk 1 (by omega)
            have k2 := hk 2 (by omega)
            have k3 := hk 3 (by omega)
            rw [Nat.add_zero] at k0
            rw [a2 1 i (by omega) (by omega) (by omega), a2 2 i (by omega) (by omega) (by omega), a2 3 i (by omega) (by omega) (by omega), a2 4 i (by omega) (by omega) (by omega), k0, k1, k2, k3]
            exact ⟨t0, t1, t2, t3⟩
          · have hn1 : ((i - (v 25).toNat : Nat) : Int) < E.2.2.1 := by omega
            have hk : ∀ c : Nat, c < 4 → N_sd v E.2.2.2 E.2.2.1 (2388 + (4 * i + c)) = E.2.2.2 (4 * (i - (v 25).toNat) + c) := fun c hc4 => by
              unfold N_sd
              rw [ja_rs_n (by omega)]
              have := N_cpp_s (v := v) (T := E.2.2.2) (by omega) (4 * E.2.2.1).toNat (4 * (i - (v 25).toNat) + c) (by omega)
              rw [← this]
              congr 1
              omega
            obtain ⟨t0, t1, t2, t3⟩ := q4 (i - (v 25).toNat) hn1
            have k0 := hk 0 (by omega)
            have k1 := hk 1 (by omega)
            have k2 := hk 2 (by omega)
            have k3 := hk 3 (by omega)
            rw [Nat.add_zero, Nat.add_zero] at k0
            have hi2 : ((B_rd mem y).2 (y + 1 + 15) 4 + ((i - (v 25).toNat : Nat) : Int)).toNat = i := by omega
            have f1 := a3 1 (i - (v 25).toNat) (by omega) (by omega) (by omega)
            have f2 := a3 2 (i - (v 25).toNat) (by omega) (by omega) (by omega)
            have f3 := a3 3 (i - (v 25).toNat) (by omega) (by omega) (by omega)
            have f4 := a3 4 (i - (v 25).toNat) (by omega) (by omega) (by omega)
            rw [hi2] at f1 f2 f3 f4
            rw [f1, f2, f3, f4, k0, k1, k2, k3]
            exact ⟨t0, t1, t2, t3⟩
theorem Y_all {A : S_T} (h : Y_ok A) : S_ok (Y_S A) := by
  obtain ⟨hb, cg, cy, s1, s3, af, ap, pl, tm, ini⟩ := id h
  have set : ∀ (mem : ja_M) (b : Nat) (v : Nat → Int) (j : Nat) (z : Int), j < 6 → ¬ R_bg mem b → Y_S A mem b v → Y_S A (ja_up mem (b + 1) j z) b (ja_rs v j z) := fun mem b v j z hj hn hS => by
    have hB := hb _ _ _ hS.1
    have hbg := S_b_bg hB hS.2
    obtain ⟨-, -, hs, -⟩ := hB
    unfold R_bg at hn
    exact ⟨s1 mem b v j z hj (by omega) (by omega) hS.1, L_p_cg (fun q q1 q2 => ja_up_row (by omega)) (fun i hi _ => ja_rs_n (by omega)) hS.2⟩
  refine ⟨?_, ?_, ?_, ?_, ?_, ?_, ?_, Y_tk h, ?_, ?_⟩
  · intro mem mem' b v v' hm hv hS
    exact ⟨cg mem mem' b v v' (fun q q1 q2 => hm q q1 (by omega)) (fun j h1 _ _ => hv j (by omega)) hS.1, L_p_cg (fun q q1 q2 => hm q (by omega) q2) (fun j _ h2 => hv j h2) hS.2⟩
  · intro mem mem' b o v t hR he hS
    refine ⟨cy mem mem' b o v t hR he hS.1, ?_⟩
    obtain ⟨-, -, -, -, -, -, -, -, -, e10, e11, -⟩ := he
    obtain ⟨l1, l2, l3⟩ := hS.2
    refine ⟨e10.trans l1, l2, fun i hi => ?_⟩
    rw [show b + 15 + 1 = b + 16 from rfl, show b + 15 + 2 = b + 17 from rfl, show b + 15 + 3 = b + 18 from rfl, show b + 15 + 4 = b + 19 from rfl, e11 16 i (by omega) (by omega) (by omega), e11 17 i (by omega) (by omega) (by omega), e11 18 i (by omega) (by omega) (by omega), e11 19 i (by omega) (by omega) (by omega)]
    exact l3 i hi
  · intro mem b v t P _ j z hj hR hO hS
    have hbg := S_b_bg (hb _ _ _ hS.1) hS.2
    by_cases hP : P ∧ ¬ R_bg mem b
    · rw [if_pos hP, if_pos ⟨hP.1, fun q => hP.2 (hbg.mpr q)⟩]
      exact set mem b v j z hj hP.2 hS
    · rw [if_neg hP, if_neg (fun q => hP ⟨q.1, fun q2 => q.2 (hbg.mp q2)⟩)]
      exact hS
  · intro mem b v t P _ j i z w hj hi hR hO hS
    have hbg := S_b_bg (hb _ _ _ hS.1) hS.2
    by_cases hP : P ∧ ¬ R_bg mem b
    · rw [if_pos hP, if_pos ⟨hP.1, fun q => hP.2 (hbg.mpr q)⟩]
      refine set _ b _ i w hi ?_ (set mem b v j z hj hP.2 hS)
      unfold R_bg
      rw [ja_up_a (by omega), ja_up_a (by omega)]
      exact hP.2
    · rw [if_neg hP, if_neg (fun q => hP ⟨q.1, fun q2 => q.2 (hbg.mp q2)⟩)]
      exact hS
  · intro mem b v P _ j z h6 h9 hS
    by_cases hP : P
    · rw [if_pos hP, if_pos hP]
      exact ⟨s3 mem b v j z h6 h9 hS.1, L_p_cg (fun q q1 q2 => ja_up_row (by omega)) (fun i hi _ => ja_rs_n (by omega)) hS.2⟩
    · rw [if_neg hP, if_neg hP]
      exact hS
  · intro mem b v t x hR hO ht hx hS
    have hkb := (N_av_O hO ht hx).2
    exact ⟨af mem b v t x hR hO ht hx hS.1, L_p_cg (fun q q1 q2 => R_af_o (Or.inl q1)) (fun j hj _ => hkb j (by omega) (by omega)) hS.2⟩
  · intro mem b v t r k i hR hO ht hr hS
    have hset := (hb _ _ _ hS.1).1
    by_cases hP : N_hP v r k i
    · rw [if_pos hP, if_pos ((ja_hasP_N hset r k i).mpr hP)]
      have hkb := (N_qv_O (r := r) hO ht hP.1 (N_hP_6 hO.1.S hP)).2
      exact ⟨ap mem b v t r k i hR hO ht hr hP hS.1, L_p_cg (fun q q1 q2 => R_ap_o (Or.inl q1)) (fun j hj _ => hkb j (by omega) (by omega)) hS.2⟩
    · rw [if_neg hP, if_neg (fun q => hP ((ja_hasP_N hset r k i).mp q))]
      exact hS
  · intro mem G y m v t hR hH hA hO hT hx hS
    obtain ⟨-, b2, b3, b4⟩ := B_sc_N hO hH hA hT hx (hb _ _ _ hS.1) hS.2
    exact ⟨cg mem _ (y + 1) v _ (fun q q1 q2 => b3 q (by omega)) (fun j h1 h2 _ => b4 j h1 h2) hS.1, b2⟩
  · intro mem b hZ
    refine ⟨ini mem b hZ, ?_, ?_, fun i hi => ?_⟩
    · rw [hZ.2 (b + 15) 4 (by omega) (by omega) (by omega)]
      exact (N_v0_z (by omega) (by omega)).symm
    · rw [N_v0_z (by omega) (by omega)]
      omega
    · rw [N_v0_z (by omega) (by omega)] at hi
      omega
end
section
-- THE TIE OF SETTINGS, TIME, START
theorem F_st_z {mem : ja_M} {b : Nat} {x : Int} (h3 : mem (b + 3) (x / ja_cells mem (b + 1)).toNat = 0) (h4 : mem (b + 4) (x / ja_cells mem (b + 1)).toNat = 0) : F_st mem (b + 1) (b + 2) x = 0 := by
  unfold F_st
  rw [show b + 2 + 2 = b + 4 from rfl, show b + 2 + 1 = b + 3 from rfl, h3, h4, if_pos (Z_shr _), if_pos (Z_shr _)]
theorem N_av_10 {v : Nat → Int} {t x : Int} (h : N_O v t) (ht : t ≤ 900000) (hx : 0 ≤ x ∧ x ≤ 999) : N_av v x 10 = if N_kn v x then v 10 else N_be v 10 := by
  have hw := N_aw_O h ht hx
  have hs := N_aw_ss h ht hx
  have hB : N_hB (N_aw v x) (x / N_ar v) := hs.hB.mpr (N_blk h.1.S hx)
  unfold N_av
  split
  · exact ja_rs_n (by omega)
  · have hb := N_be_O h ht
    obtain ⟨a1, a2⟩ := N_a1_R hb.1 hx
    have hf := N_fxs (x := x) hb.1.S ⟨by omega, by omega⟩
    have hc := hb.1.C
    obtain ⟨s1, s2⟩ := N_se_R (t := N_be v 9 - x * N_be v 0) a1 ⟨by omega, by omega⟩
    exact ((N_rs_fr (a := 0) 40 0 (N_aw v x) hw.1.S hB).k 10 (by omega)).trans ((a2.tr s2) 10 (by omega))
theorem N_qv_10 {v : Nat → Int} {t r k i : Int} (h : N_O v t) (ht : t ≤ 900000) (hk : N_hB v k) (hi : 0 ≤ i ∧ i ≤ 6) : N_qv v r k i 10 = if v (N_pk v r k i).toNat = 1 then v 10 else N_be v 10 := by
  obtain ⟨hw, hwk, hs⟩ := N_qw_O (r := r) h ht hk hi
  have hB : N_hB (N_qw v r k i) k := hs.hB.mpr hk
  have hp := N_pk_in (r := r) h.1.S hk hi
  unfold N_qv
  split
  · exact ja_rs_n (by omega)
  · refine ((N_rs_fr (a := 0) 40 0 (N_qw v r k i) hw.1.S hB).k 10 (by omega)).trans ?_
    unfold N_qw
    exact ja_rs_n (by omega)
theorem R_so_78 {mem : ja_M} {b : Nat} : R_so mem b b 7 = (if mem b 7 = 0 then 1 else mem b 7) ∧ R_so mem b b 8 = if mem b 7 = 0 then mem b 6 + mem (b + 1) 5 else mem b 8 := by
  unfold R_so
  split
  · exact ⟨by rw [ja_up_j (by omega), ja_up_s], by rw [ja_up_s]⟩
  · exact ⟨rfl, rfl⟩
theorem R_af_b {mem : ja_M} {b : Nat} {x : Int} : R_af mem b x b = if F_st mem (b + 1) (b + 2) x = 0 then R_so mem b b else mem b := by
  unfold R_af
  split
  · rw [R_rs_o (by omega), R_kn, F_ad_o ⟨by omega, by omega⟩, R_lt_o (by omega), R_ad, T_add_o (by omega)]
  · unfold R_dp
    exact ja_up_row (by omega)
theorem R_ap_b {mem : ja_M} {b : Nat} {r k i : Int} : R_ap mem b r k i b = if F_and (mem (b + 2 + 3) k.toNat) (F_pb r i) = 0 then R_so mem b b else mem b := by
  unfold R_ap
  split
  · rw [R_rs_o (by omega), R_pk, F_ap_o (by omega)]
  · unfold R_dp
    exact ja_up_row (by omega)
theorem S_b_cells {mem : ja_M} {b : Nat} {v : Nat → Int} (h : ∀ j, j < 9 → mem (b + 1) j = v j) : ja_cells mem (b + 1) = N_ar v := by
  unfold ja_cells N_ar
  rw [h 3 (by omega), h 4 (by omega)]
/-- a start, or none -/
theorem S_b_so {mem M : ja_M} {b : Nat} {v w : Nat → Int} {P Q : Prop} [Decidable P] [Decidable Q] (hC : 0 ≤ v 9 + v 5) (h : S_b mem b v) (e1 : ∀ j, j < 9 → M (b + 1) j = w j) (e6 : M b 6 = w 9) (eM : M b = if P then R_so mem b b else mem b) (ew : w 10 = if Q then v 10 else N_be v 10) (hP : mem b 7 = 0 → P) (hQ : v 10 < 0 → ¬ Q) : S_b M b w := by
  obtain ⟨h1, h6, hs, hz⟩ := h
  obtain ⟨s7, s8⟩ := @R_so_78 mem b
  rcases hs with ⟨k7, k10⟩ | ⟨k7, k10, k8⟩
  · rw [if_pos (hP k7)] at eM
    rw [if_pos k7] at s7 s8
    rw [if_neg (hQ k10), N_be, if_pos k10, ja_rs_s] at ew
    refine ⟨e1, e6, Or.inr ⟨by rw [eM]; exact s7, by omega, by rw [eM, s8, ew, h6, h1 5 (by omega)]⟩, fun q => ?_⟩
    rw [eM, s7] at q
    exact absurd q (by decide)
  · rw [if_neg (by omega)] at s7 s8
    have m7 : M b 7 = 1 := by
      rw [eM]
      split
      · rw [s7]
        exact k7
      · exact k7
    have m8 : M b 8 = mem b 8 := by
      rw [eM]
      split
      · exact s8
      · rfl
    have w10 : w 10 = v 10 := by
      rw [ew]
      split
      · rfl
      · rw [N_be, if_neg (by omega)]
    refine ⟨e1, e6, Or.inr ⟨m7, by omega, by rw [m8, w10]; exact k8⟩, fun q => ?_⟩
    rw [m7] at q
    exact absurd q (by decide)
theorem S_b_af : S_af S_b := by
  intro mem b v t x hR hO ht hx h
  have hk := (N_av_O hO ht hx).2
  have hC := hO.1.C
  have hS := hO.1.S
  obtain ⟨h1, h6, hs, hz⟩ := id h
  have har := N_ar_in hS
  have hbl := N_blk hS hx
  have hbk := N_bk hS hbl
  refine S_b_so (by omega) h (fun j hj => ?_) ?_ R_af_b (N_av_10 hO ht hx) (fun q => ?_) (fun q => ?_)
  · rw [R_af_o (by omega), hk j (by omega) (by omega)]
    exact h1 j hj
  · rw [R_af_6, hk 9 (by omega) (by omega)]
    exact h6
  · obtain ⟨z1, -⟩ := hz q
    have hc := S_b_cells h1
    exact F_st_z (by rw [hc]; exact z1 3 _ (by omega) (by omega) (by omega)) (by rw [hc]; exact z1 4 _ (by omega) (by omega) (by omega))
  · obtain ⟨-, z2⟩ := hz (by omega)
    intro r
    rcases r with r | r
    · omega
    · rw [z2 _ (by omega) (by omega)] at r
      omega
theorem S_b_ap : Y_ap S_b := by
  intro mem b v t r k i hR hO ht hr hP h
  have hi := N_hP_6 hO.1.S hP
  have hk := (N_qv_O (r := r) hO ht hP.1 hi).2
  have hC := hO.1.C
  have hS := hO.1.S
  obtain ⟨h1, h6, hs, hz⟩ := id h
  have hbk := N_bk hS hP.1
  have hpk := N_pk_in (r := r) hS hP.1 hi
  refine S_b_so (by omega) h (fun j hj => ?_) ?_ R_ap_b (N_qv_10 hO ht hP.1 hi) (fun q => ?_) (fun q => ?_)
  · rw [R_ap_o (by omega), hk j (by omega) (by omega)]
    exact h1 j hj
  · rw [R_ap_6, hk 9 (by omega) (by omega)]
    exact h6
  · obtain ⟨z1, -⟩ := hz q
    rw [show b + 2 + 3 = b + 5 from rfl, z1 5 _ (by omega) (by omega) (by omega)]
    exact Z_and0 _
  · obtain ⟨-, z2⟩ := hz (by omega)
    rw [z2 _ (by omega) (by omega)]
    decide
theorem S_b_pl : Y_pl S_b := by
  intro mem b v t hR hO ht h
  obtain ⟨h1, h6, hs, hz⟩ := h
  have e : ∀ c, c < 9 → R_pl mem b (b + c) = mem (b + c) := fun c hc => R_pl_o (by omega)
  have e0 := e 0 (by omega)
  rw [Nat.add_zero] at e0
  refine ⟨fun j hj => ?_, ?_, ?_, fun q => ?_⟩
  · rw [e 1 (by omega), N_pl_n hO (by omega)]
    exact h1 j hj
  · rw [e0, N_pl_n hO (by omega)]
    exact h6
  · rw [e0, N_pl_n hO (by omega)]
    exact hs
  · rw [e0] at q
    obtain ⟨z1, z2⟩ := hz q
    refine ⟨fun c j c1 c2 hj => by rw [e c (by omega)]; exact z1 c j c1 c2 hj, fun j h30 h2054 => ?_⟩
    unfold N_pl
    rw [if_neg (fun r => by unfold N_on at r; omega)]
    exact z2 j h30 h2054
theorem S_b_cg : Y_cg S_b := by
  intro mem mem' b v v' hm hv h
  obtain ⟨h1, h6, hs, hz⟩ := h
  have e0 := hm b (by omega) (by omega)
  refine ⟨fun j hj => by rw [hm _ (by omega) (by omega), hv j (by omega) (by omega) (by omega)]; exact h1 j hj, by rw [e0, hv 9 (by omega) (by omega) (by omega)]; exact h6, by rw [e0, hv 10 (by omega) (by omega) (by omega)]; exact hs, fun q => ?_⟩
  rw [e0] at q
  obtain ⟨z1, z2⟩ := hz q
  exact ⟨fun c j c1 c2 hj => by rw [hm _ (by omega) (by omega)]; exact z1 c j c1 c2 hj, fun j j1 j2 => by rw [hv j (by omega) (by omega) (by omega)]; exact z2 j j1 j2⟩
theorem S_b_cy : S_cy S_b := by
  intro mem mem' b o v t hR he h
  obtain ⟨e1, e2, -, -, -, -, -, -, -, -, -, e6, e7, e8⟩ := he
  obtain ⟨h1, h6, hs, hz⟩ := h
  refine ⟨fun j hj => (e1 j hj).trans (h1 j hj), e6.trans h6, by rw [e7, e8]; exact hs, fun q => ?_⟩
  rw [e7] at q
  obtain ⟨z1, z2⟩ := hz q
  exact ⟨fun c j c1 c2 hj => (e2 c j c1 c2 hj).trans (z1 c j c1 c2 hj), z2⟩
theorem S_b_up {mem : ja_M} {b : Nat} {v : Nat → Int} {j : Nat} {z : Int} (hj : j < 9) (h : S_b mem b v) : S_b (ja_up mem (b + 1) j z) b (ja_rs v j z) := by
  obtain ⟨h1, h6, hs, hz⟩ := h
  refine ⟨fun i hi => ?_, ?_, ?_, fun q => ?_⟩
  · by_cases hij : i = j
    · subst hij
      rw [ja_up_s, ja_rs_s]
    · rw [ja_up_j hij, ja_rs_n hij]
      exact h1 i hi
  · rw [ja_up_a (by omega), ja_rs_n (by omega)]
    exact h6
  · rw [ja_up_a (by omega), ja_up_a (by omega), ja_rs_n (by omega)]
    exact hs
  · rw [ja_up_a (by omega)] at q
    obtain ⟨z1, z2⟩ := hz q
    exact ⟨fun c i c1 c2 hi => by rw [ja_up_a (by omega)]; exact z1 c i c1 c2 hi, fun i i1 i2 => by rw [ja_rs_n (by omega)]; exact z2 i i1 i2⟩
theorem S_b_tm : Y_tm S_b := by
  intro mem b v h
  obtain ⟨h1, h6, hs, hz⟩ := h
  refine ⟨fun i hi => ?_, ?_, ?_, fun q => ?_⟩
  · rw [ja_up_a (by omega), ja_rs_n (by omega)]
    exact h1 i hi
  · rw [ja_up_s, ja_rs_s, h6]
  · rw [ja_up_j (by omega), ja_up_j (by omega), ja_rs_n (by omega)]
    exact hs
  · rw [ja_up_j (by omega)] at q
    obtain ⟨z1, z2⟩ := hz q
    exact ⟨fun c i c1 c2 hi => by rw [ja_up_a (by omega)]; exact z1 c i c1 c2 hi, fun i i1 i2 => by rw [ja_rs_n (by omega)]; exact z2 i i1 i2⟩
theorem S_b_in : S_in S_b := by
  intro mem b h
  obtain ⟨⟨s0, s1, s2, s3, s4, s5, s6, s7, s8⟩, hz⟩ := id h
  refine ⟨fun j hj => ?_, ?_, Or.inl ⟨hz b 7 (by omega) (by omega) (by omega), by decide⟩, fun _ => ⟨fun c j c1 c2 hj => hz _ _ (by omega) (by omega) (by omega), fun j j1 j2 => N_v0_z (by omega) (by omega)⟩⟩
  · rcases (show j = 0 ∨ j = 1 ∨ j = 2 ∨ j = 3 ∨ j = 4 ∨ j = 5 ∨ j = 6 ∨ j = 7 ∨ j = 8 by omega) with rfl | rfl | rfl | rfl | rfl | rfl | rfl | rfl | rfl
    · exact s0
    · exact s1
    · exact s2
    · exact s3
    · exact s4
    · exact s5
    · exact s6
    · exact s7
    · exact s8
  · rw [hz b 6 (by omega) (by omega) (by omega), N_v0_z (by omega) (by omega)]
theorem S_b_ok : Y_ok S_b := ⟨fun _ _ _ h => h, S_b_cg, S_b_cy, fun mem b v j z hj _ _ h => S_b_up (by omega) h, fun mem b v j z _ h9 h => S_b_up h9 h, S_b_af, S_b_ap, S_b_pl, S_b_tm, S_b_in⟩
abbrev S2 : S_T := Y_S S_b
theorem S2_ok : S_ok S2 := Y_all S_b_ok
end
section
-- HOW MANY BITS ARE SET
def J_M (m : Nat) : Nat → Nat
  | 0 => 0
  | k + 1 => 256 * J_M m k + m
theorem J_and8 (m u k : Nat) (hm : m < 256) : u &&& J_M m (k + 1) = 256 * (u / 256 &&& J_M m k) + (u % 256 &&& m) := by
  have h1 : (u &&& (256 * J_M m k + m)) / 2 ^ 8 = u / 2 ^ 8 &&& (256 * J_M m k + m) / 2 ^ 8 := Nat.and_div_two_pow
  have h2 : (u &&& (256 * J_M m k + m)) % 2 ^ 8 = (u % 2 ^ 8) &&& ((256 * J_M m k + m) % 2 ^ 8) := Nat.and_mod_two_pow
  rw [show (2 : Nat) ^ 8 = 256 from rfl] at h1 h2
  rw [show (256 * J_M m k + m) / 256 = J_M m k by omega] at h1
  rw [show (256 * J_M m k + m) % 256 = m by omega] at h2
  show u &&& (256 * J_M m k + m) = _
  generalize u &&& (256 * J_M m k + m) = w at *
  omega
def J_A (k u : Nat) : Nat := u - (u / 2 &&& J_M 85 k)
def J_A1 (d : Nat) : Nat := d - (d / 2 &&& 85)
def J_B (k a : Nat) : Nat := (a &&& J_M 51 k) + (a / 4 &&& J_M 51 k)
def J_B1 (d : Nat) : Nat := (d &&& 51) + (d / 4 &&& 51)
def J_C (k b : Nat) : Nat := (b + b / 16) &&& J_M 15 k
def J_C1 (d : Nat) : Nat := (d + d / 16) &&& 15
def J_p8 (d : Nat) : Nat := J_C1 (J_B1 (J_A1 d))
theorem J_dA : ∀ e : Fin 512, e.val / 2 % 256 &&& 85 = e.val % 256 / 2 &&& 85 := by decide +kernel
theorem J_dB : ∀ e : Fin 1024, e.val / 4 % 256 &&& 51 = e.val % 256 / 4 &&& 51 := by decide +kernel
theorem J_dC : ∀ e : Fin 256, e.val &&& 15 = e.val % 16 := by decide +kernel
theorem J_dP : ∀ d : Fin 256, J_A1 d.val < 256 ∧ J_B1 (J_A1 d.val) % 16 ≤ 4 ∧ J_B1 (J_A1 d.val) ≤ 68 ∧ J_p8 d.val ≤ 8 := by decide +kernel
theorem J_A_s (k u : Nat) : J_A (k + 1) u = 256 * J_A k (u / 256) + J_A1 (u % 256) := by
  have h := J_dA ⟨u % 512, by omega⟩
  simp only at h
  rw [show u % 512 / 2 % 256 = u / 2 % 256 by omega, show u % 512 % 256 = u % 256 by omega] at h
  have e := J_and8 85 (u / 2) k (by omega)
  rw [show u / 2 / 256 = u / 256 / 2 by omega, h] at e
  unfold J_A J_A1
  rw [e]
  have h1 : (u / 256 / 2 &&& J_M 85 k) ≤ u / 256 / 2 := Nat.and_le_left
  have h2 : (u % 256 / 2 &&& 85) ≤ u % 256 / 2 := Nat.and_le_left
  generalize (u / 256 / 2 &&& J_M 85 k) = X at *
  generalize (u % 256 / 2 &&& 85) = Y at *
  omega
theorem J_B_s (k a : Nat) : J_B (k + 1) a = 256 * J_B k (a / 256) + J_B1 (a % 256) := by
  have h := J_dB ⟨a % 1024, by omega⟩
  simp only at h
  rw [show a % 1024 / 4 % 256 = a / 4 % 256 by omega, show a % 1024 % 256 = a % 256 by omega] at h
  have e1 := J_and8 51 (a / 4) k (by omega)
  rw [show a / 4 / 256 = a / 256 / 4 by omega, h] at e1
  have e2 := J_and8 51 a k (by omega)
  unfold J_B J_B1
  rw [e1, e2]
  omega
theorem J_C_s (k b : Nat) (h4 : b / 256 % 16 ≤ 4) (h68 : b % 256 ≤ 68) : J_C (k + 1) b = 256 * J_C k (b / 256) + J_C1 (b % 256) := by
  have e := J_and8 15 (b + b / 16) k (by omega)
  have g1 := J_dC ⟨(b + b / 16) % 256, by omega⟩
  have g2 := J_dC ⟨b % 256 + b % 256 / 16, by omega⟩
  simp only at g1 g2
  rw [g1, show (b + b / 16) / 256 = b / 256 + b / 256 / 16 by omega] at e
  unfold J_C J_C1
  have hb : b / 16 = 16 * (b / 256) + b % 256 / 16 := by omega
  have hw : (b + b / 16) % 16 = (b % 256 + b % 256 / 16) % 16 := by omega
  rw [e, g2, show (b + b / 16) % 256 % 16 = (b + b / 16) % 16 by omega, hw]
def J_P (k u : Nat) : Nat := J_C k (J_B k (J_A k u))
theorem J_P_s (k u : Nat) : J_P (k + 1) u = 256 * J_P k (u / 256) + J_p8 (u % 256) ∧ J_B (k + 1) (J_A (k + 1) u) % 16 ≤ 4 := by
  obtain ⟨d1, d2, d3, -⟩ := J_dP ⟨u % 256, by omega⟩
  simp only at d1 d2 d3
  have ea := J_A_s k u
  have eb := J_B_s k (J_A (k + 1) u)
  rw [show J_A (k + 1) u / 256 = J_A k (u / 256) by omega, show J_A (k + 1) u % 256 = J_A1 (u % 256) by omega] at eb
  have h4 : J_B k (J_A k (u / 256)) % 16 ≤ 4 := by
    cases k with
    | zero =>
      show ((J_A 0 (u / 256) &&& 0) + (J_A 0 (u / 256) / 4 &&& 0)) % 16 ≤ 4
      rw [Nat.and_zero, Nat.and_zero]
      decide
    | succ k => exact (J_P_s k (u / 256)).2
  refine ⟨?_, by omega⟩
  unfold J_P
  rw [J_C_s k _ (by rw [eb]; omega) (by rw [eb]; omega)]
  unfold J_p8
  rw [show J_B (k + 1) (J_A (k + 1) u) / 256 = J_B k (J_A k (u / 256)) by omega, show J_B (k + 1) (J_A (k + 1) u) % 256 = J_B1 (J_A1 (u % 256)) by omega]
/-- counted from the low end -/
def J_pc : Nat → Nat → Nat
  | 0, _ => 0
  | k + 1, n => n % 2 + J_pc k (n / 2)
theorem J_dQ : ∀ d : Fin 256, J_p8 d.val = J_pc 8 d.val := by decide +kernel
theorem J_pc8 (k u : Nat) : J_pc (k + 8) u = J_pc 8 (u % 256) + J_pc k (u / 256) := by
  simp only [J_pc]
  rw [show u / 2 / 2 / 2 / 2 / 2 / 2 / 2 / 2 = u / 256 by omega]
  omega
def J_Q : Nat → Nat → Nat
  | 0, _ => 0
  | k + 1, u => J_p8 (u % 256) + J_Q k (u / 256)
theorem J_Q_pc : ∀ k u : Nat, J_Q k u = J_pc (8 * k) u
  | 0, u => rfl
  | k + 1, u => by
    have h := J_dQ ⟨u % 256, by omega⟩
    simp only at h
    simp only [J_Q]
    rw [show 8 * (k + 1) = 8 * k + 8 by omega, J_pc8, J_Q_pc k (u / 256), h]
/-- the last additions -/
theorem J_dv (m s c : Nat) (h : s < m) : (s + m * c) / m = c := by
  rw [Nat.add_mul_div_left _ _ (by omega), Nat.div_eq_of_lt h, Nat.zero_add]
theorem J_s8 {s0 s1 s2 s3 s4 s5 s6 s7 c : Nat} (hc : c = s0 + 256 * (s1 + 256 * (s2 + 256 * (s3 + 256 * (s4 + 256 * (s5 + 256 * (s6 + 256 * s7))))))) (h0 : s0 ≤ 8) : c + c / 256 = (s0 + s1 + 256 * (s1 + s2)) + 65536 * (s2 + s3 + 256 * (s3 + s4 + 256 * (s4 + s5 + 256 * (s5 + s6 + 256 * (s6 + s7 + 256 * s7))))) := by
  have h := J_dv 256 s0 (s1 + 256 * (s2 + 256 * (s3 + 256 * (s4 + 256 * (s5 + 256 * (s6 + 256 * s7)))))) (by omega)
  rw [hc, h]
  clear h hc h0
  omega
theorem J_s16 {s0 s1 s2 s3 s4 s5 s6 s7 d : Nat} (hd : d = (s0 + s1 + 256 * (s1 + s2)) + 65536 * (s2 + s3 + 256 * (s3 + s4 + 256 * (s4 + s5 + 256 * (s5 + s6 + 256 * (s6 + s7 + 256 * s7)))))) (h : s0 + s1 + 256 * (s1 + s2) < 65536) : d + d / 65536 = (s0 + s1 + s2 + s3 + 256 * (s1 + s2 + s3 + s4) + 65536 * (s2 + s3 + s4 + s5) + 16777216 * (s3 + s4 + s5 + s6)) + 4294967296 * (s4 + s5 + s6 + s7 + 256 * (s5 + s6 + s7) + 65536 * (s6 + s7) + 16777216 * s7) := by
  have g := J_dv 65536 (s0 + s1 + 256 * (s1 + s2)) (s2 + s3 + 256 * (s3 + s4 + 256 * (s4 + s5 + 256 * (s5 + s6 + 256 * (s6 + s7 + 256 * s7))))) h
  rw [hd, g]
  clear g hd h
  omega
theorem J_s32 {a b e : Nat} (he : e = a + 4294967296 * b) (h : a < 4294967296) : e + e / 4294967296 = a + 4294967296 * b + b := by
  have g := J_dv 4294967296 a b h
  rw [he, g]
theorem J_sum (u : Nat) : ∀ c d e f : Nat, c = J_P 8 u → d = c + c / 256 → e = d + d / 65536 → f = e + e / 4294967296 → f % 128 = J_Q 8 u := by
  intro c d e f hc hd he hf
  have s (k u : Nat) := (J_P_s k u).1
  have b (u : Nat) : J_p8 (u % 256) ≤ 8 := (J_dP ⟨u % 256, by omega⟩).2.2.2
  have z : ∀ w, J_P 0 w = 0 := fun w => by
    unfold J_P J_C
    exact Nat.and_zero _
  rw [s, s, s, s, s, s, s, s, z] at hc
  simp only [J_Q]
  have b0 := b u
  have b1 := b (u / 256)
  have b2 := b (u / 256 / 256)
  have b3 := b (u / 256 / 256 / 256)
  have b4 := b (u / 256 / 256 / 256 / 256)
  have b5 := b (u / 256 / 256 / 256 / 256 / 256)
  have b6 := b (u / 256 / 256 / 256 / 256 / 256 / 256)
  have b7 := b (u / 256 / 256 / 256 / 256 / 256 / 256 / 256)
  generalize J_p8 (u % 256) = s0 at *
  generalize J_p8 (u / 256 % 256) = s1 at *
  generalize J_p8 (u / 256 / 256 % 256) = s2 at *
  generalize J_p8 (u / 256 / 256 / 256 % 256) = s3 at *
  generalize J_p8 (u / 256 / 256 / 256 / 256 % 256) = s4 at *
  generalize J_p8 (u / 256 / 256 / 256 / 256 / 256 % 256) = s5 at *
  generalize J_p8 (u / 256 / 256 / 256 / 256 / 256 / 256 % 256) = s6 at *
  generalize J_p8 (u / 256 / 256 / 256 / 256 / 256 / 256 / 256 % 256) = s7 at *
  clear s b z
  have hc2 : c = s0 + 256 * (s1 + 256 * (s2 + 256 * (s3 + 256 * (s4 + 256 * (s5 + 256 * (s6 + 256 * s7)))))) := by
    rw [hc]
    clear hc hd he hf b0 b1 b2 b3 b4 b5 b6 b7
    omega
  rw [J_s8 hc2 b0] at hd
  clear hc hc2
  have hl : s0 + s1 + 256 * (s1 + s2) < 65536 := by
    clear hd he hf
    omega
  rw [J_s16 hd hl] at he
  clear hd hl
  have hl2 : s0 + s1 + s2 + s3 + 256 * (s1 + s2 + s3 + s4) + 65536 * (s2 + s3 + s4 + s5) + 16777216 * (s3 + s4 + s5 + s6) < 4294967296 := by
    clear he hf
    omega
  rw [J_s32 he hl2] at hf
  clear he hl2
  have f1 : f = (s0 + s1 + s2 + s3 + s4 + s5 + s6 + s7) + 128 * (2 * (s1 + s2 + s3 + s4 + s5 + s6 + s7) + 512 * (s2 + s3 + s4 + s5 + s6 + s7) + 131072 * (s3 + s4 + s5 + s6 + s7) + 33554432 * (s4 + s5 + s6 + s7) + 8589934592 * (s5 + s6 + s7) + 2199023255552 * (s6 + s7) + 562949953421312 * s7) := by
    rw [hf]
    clear hf b0 b1 b2 b3 b4 b5 b6 b7
    omega
  rw [f1, Nat.add_mul_mod_self_left, Nat.mod_eq_of_lt (by clear f1 hf; omega)]
  clear f1 hf b0 b1 b2 b3 b4 b5 b6 b7
  omega
-- the same of a long
def J_ga (x : Int64) : Int64 := x - ((x.toUInt64 >>> ((ja_I 1).toInt64.toUInt64 &&& Int64.toUInt64 63)).toInt64 &&& 6148914691236517205)
def J_gb (a : Int64) : Int64 := (a &&& 3689348814741910323) + ((a.toUInt64 >>> ((ja_I 2).toInt64.toUInt64 &&& Int64.toUInt64 63)).toInt64 &&& 3689348814741910323)
def J_gc (b : Int64) : Int64 := b + (b.toUInt64 >>> ((ja_I 4).toInt64.toUInt64 &&& Int64.toUInt64 63)).toInt64 &&& 1085102592571150095
def J_gd (s : Int) (c : Int64) : Int64 := c + (c.toUInt64 >>> ((ja_I s).toInt64.toUInt64 &&& Int64.toUInt64 63)).toInt64
theorem J_l85 : (6148914691236517205 : UInt64).toNat = J_M 85 8 := by decide +kernel
theorem J_l51 : (3689348814741910323 : UInt64).toNat = J_M 51 8 := by decide +kernel
theorem J_l15 : (1085102592571150095 : UInt64).toNat = J_M 15 8 := by decide +kernel
theorem J_m51 : J_M 51 8 = 3689348814741910323 := by decide +kernel
theorem J_m15 : J_M 15 8 = 1085102592571150095 := by decide +kernel
theorem J_bc_g (x : Int64) : J_bc x = ((J_gd 32 (J_gd 16 (J_gd 8 (J_gc (J_gb (J_ga x)))))).toInt32 &&& ja_I 127).toInt := rfl
theorem J_nu (x : Int64) (s : UInt64) (k d : Nat) (hs : s.toNat % 64 = k) (hd : 2 ^ k = d) : (x.toUInt64 >>> s).toNat = x.toUInt64.toNat / d := by
  rw [UInt64.toNat_shiftRight, hs, Nat.shiftRight_eq_div_pow, hd]
theorem J_ga_u (x : Int64) : (J_ga x).toUInt64.toNat = J_A 8 x.toUInt64.toNat := by
  have e : (J_ga x).toUInt64 = x.toUInt64 - ((x.toUInt64 >>> ((ja_I 1).toInt64.toUInt64 &&& Int64.toUInt64 63)) &&& 6148914691236517205) := rfl
  have h1 : ((x.toUInt64 >>> ((ja_I 1).toInt64.toUInt64 &&& Int64.toUInt64 63)) &&& 6148914691236517205).toNat = (x.toUInt64.toNat / 2 &&& J_M 85 8) := by
    rw [UInt64.toNat_and, J_nu x _ 1 2 (by decide +kernel) (by decide), J_l85]
  have h2 : (x.toUInt64.toNat / 2 &&& J_M 85 8) ≤ x.toUInt64.toNat / 2 := Nat.and_le_left
  rw [e, UInt64.toNat_sub_of_le _ _ (by rw [UInt64.le_iff_toNat_le, h1]; omega), h1]
  rfl
theorem J_gb_u (x : Int64) : (J_gb x).toUInt64.toNat = J_B 8 x.toUInt64.toNat := by
  have e : (J_gb x).toUInt64 = (x.toUInt64 &&& 3689348814741910323) + ((x.toUInt64 >>> ((ja_I 2).toInt64.toUInt64 &&& Int64.toUInt64 63)) &&& 3689348814741910323) := rfl
  have h1 : ((x.toUInt64 >>> ((ja_I 2).toInt64.toUInt64 &&& Int64.toUInt64 63)) &&& 3689348814741910323).toNat = (x.toUInt64.toNat / 4 &&& J_M 51 8) := by
    rw [UInt64.toNat_and, J_nu x _ 2 4 (by decide +kernel) (by decide), J_l51]
  have h2 : (x.toUInt64 &&& 3689348814741910323).toNat = (x.toUInt64.toNat &&& J_M 51 8) := by
    rw [UInt64.toNat_and, J_l51]
  have h3 : (x.toUInt64.toNat / 4 &&& J_M 51 8) ≤ J_M 51 8 := Nat.and_le_right
  have h4 : (x.toUInt64.toNat &&& J_M 51 8) ≤ J_M 51 8 := Nat.and_le_right
  have h5 := J_m51
  rw [e, UInt64.toNat_add, h1, h2, Nat.mod_eq_of_lt (by rw [h5] at h3 h4; rw [h5]; omega)]
  rfl
theorem J_gc_u (x : Int64) (h : x.toUInt64.toNat ≤ 7378697629483820646) : (J_gc x).toUInt64.toNat = J_C 8 x.toUInt64.toNat := by
  have e : (J_gc x).toUInt64 = (x.toUInt64 + (x.toUInt64 >>> ((ja_I 4).toInt64.toUInt64 &&& Int64.toUInt64 63))) &&& 1085102592571150095 := rfl
  rw [e, UInt64.toNat_and, UInt64.toNat_add, J_nu x _ 4 16 (by decide +kernel) (by decide), Nat.mod_eq_of_lt (by omega), J_l15]
  rfl
theorem J_gd_u {s : Int} {k d : Nat} (hs : ((ja_I s).toInt64.toUInt64 &&& Int64.toUInt64 63).toNat % 64 = k) (hd : 2 ^ k = d) (x : Int64) (h : x.toUInt64.toNat < 9223372036854775808) : (J_gd s x).toUInt64.toNat = x.toUInt64.toNat + x.toUInt64.toNat / d := by
  have e : (J_gd s x).toUInt64 = x.toUInt64 + (x.toUInt64 >>> ((ja_I s).toInt64.toUInt64 &&& Int64.toUInt64 63)) := rfl
  have hd2 : x.toUInt64.toNat / d ≤ x.toUInt64.toNat := Nat.div_le_self _ _
  rw [e, UInt64.toNat_add, J_nu x _ k d hs hd, Nat.mod_eq_of_lt (by omega)]
theorem J_and127n : ∀ e : Fin 128, e.val &&& 127 = e.val := by decide +kernel
theorem J_i7 (f : Int64) : (f.toInt32 &&& ja_I 127).toInt = ((f.toUInt64.toNat % 128 : Nat) : Int) := by
  have hb : (f.toInt32 &&& ja_I 127).toBitVec.toNat = f.toUInt64.toNat % 128 := by
    have e : (f.toInt32 &&& ja_I 127).toBitVec = f.toBitVec.signExtend 32 &&& 127#32 := rfl
    rw [e, BitVec.signExtend_eq_setWidth_of_le _ (by omega), BitVec.toNat_and, BitVec.toNat_setWidth]
    have e2 : (127#32).toNat = 2 ^ 7 - 1 := rfl
    rw [e2, Nat.and_two_pow_sub_one_eq_mod]
    show f.toUInt64.toNat % 2 ^ 32 % 2 ^ 7 = _
    omega
  show (f.toInt32 &&& ja_I 127).toBitVec.toInt = _
  rw [BitVec.toInt_eq_toNat_of_lt (by rw [hb]; omega), hb]
theorem J_bc_u (x : Int64) : J_bc x = ((J_pc 64 x.toUInt64.toNat : Nat) : Int) := by
  have ha := J_ga_u x
  have hb := J_gb_u (J_ga x)
  have h3 : (J_A 8 x.toUInt64.toNat / 4 &&& J_M 51 8) ≤ J_M 51 8 := Nat.and_le_right
  have h4 : (J_A 8 x.toUInt64.toNat &&& J_M 51 8) ≤ J_M 51 8 := Nat.and_le_right
  have h5 := J_m51
  have hb2 : (J_gb (J_ga x)).toUInt64.toNat ≤ 7378697629483820646 := by
    rw [hb, ha]
    unfold J_B
    omega
  have hc := J_gc_u (J_gb (J_ga x)) hb2
  have hcP : (J_gc (J_gb (J_ga x))).toUInt64.toNat = J_P 8 x.toUInt64.toNat := by
    rw [hc, hb, ha]
    rfl
  have hcl : J_P 8 x.toUInt64.toNat ≤ J_M 15 8 := Nat.and_le_right
  have h6 := J_m15
  have hd := J_gd_u (s := 8) (k := 8) (d := 256) (by decide +kernel) (by decide) (J_gc (J_gb (J_ga x))) (by omega)
  have he := J_gd_u (s := 16) (k := 16) (d := 65536) (by decide +kernel) (by decide) (J_gd 8 (J_gc (J_gb (J_ga x)))) (by omega)
  have hf := J_gd_u (s := 32) (k := 32) (d := 4294967296) (by decide +kernel) (by decide) (J_gd 16 (J_gd 8 (J_gc (J_gb (J_ga x))))) (by omega)
  have hs := J_sum x.toUInt64.toNat _ _ _ _ hcP hd he hf
  rw [J_bc_g, J_i7, hs, J_Q_pc]
-- bits
abbrev J_b (x : Int64) (c : Nat) : Bool := x.toBitVec.getLsbD c
theorem J_t1 : true.toNat = 1 := rfl
theorem J_t0 : false.toNat = 0 := rfl
/-- how many of the first k -/
def J_ct (P : Nat → Bool) : Nat → Nat
  | 0 => 0
  | k + 1 => J_ct P k + (P k).toNat
theorem J_ct_s (P : Nat → Bool) (k : Nat) : J_ct P (k + 1) = J_ct P k + (P k).toNat := rfl
theorem J_ct_l (P : Nat → Bool) : ∀ k : Nat, J_ct P (k + 1) = (P 0).toNat + J_ct (fun c => P (c + 1)) k
  | 0 => by
    simp only [J_ct]
    omega
  | k + 1 => by
    rw [J_ct_s P (k + 1), J_ct_l P k, J_ct_s _ k]
    omega
theorem J_pc_ct : ∀ k n : Nat, J_pc k n = J_ct (fun c => n.testBit c) k
  | 0, n => rfl
  | k + 1, n => by
    have e : (fun c => n.testBit (c + 1)) = fun c => (n / 2).testBit c := by
      funext c
      exact Nat.testBit_succ n c
    have e0 : (n.testBit 0).toNat = n % 2 := by
      rw [Nat.testBit_zero]
      rcases Nat.mod_two_eq_zero_or_one n with h | h
      · rw [h]
        rfl
      · rw [h]
        rfl
    rw [J_ct_l, e, e0, ← J_pc_ct k (n / 2)]
    rfl
/-- THE NUMBER OF BITS -/
theorem J_bc_ct (x : Int64) : J_bc x = ((J_ct (J_b x) 64 : Nat) : Int) := by
  rw [J_bc_u, J_pc_ct]
  rfl
theorem J_ct_e {P Q : Nat → Bool} : ∀ k : Nat, (∀ c, c < k → P c = Q c) → J_ct P k = J_ct Q k
  | 0, _ => rfl
  | k + 1, h => by
    rw [J_ct_s, J_ct_s, J_ct_e k (fun c hc => h c (by omega)), h k (by omega)]
theorem J_ct_u {P : Nat → Bool} {i : Nat} (hP : P i = false) : ∀ k : Nat, J_ct (fun c => if c = i then true else P c) k = J_ct P k + if i < k then 1 else 0
  | 0 => rfl
  | k + 1 => by
    rw [J_ct_s, J_ct_s, J_ct_u hP k]
    by_cases h : k = i
    · have e : (if k = i then true else P k) = true := if_pos h
      rw [e, h, hP, if_neg (by omega), if_pos (by omega)]
      rfl
    · have e : (if k = i then true else P k) = P k := if_neg h
      rw [e]
      by_cases h2 : i < k
      · rw [if_pos h2, if_pos (show i < k + 1 by omega)]
        omega
      · rw [if_neg h2, if_neg (show ¬ i < k + 1 by omega)]
        omega
theorem J_ct_z {P : Nat → Bool} : ∀ k : Nat, (∀ c, c < k → P c = false) → J_ct P k = 0
  | 0, _ => rfl
  | k + 1, h => by
    rw [J_ct_s, J_ct_z k (fun c hc => h c (by omega)), h k (by omega)]
    rfl
/-- a set of cells, numbered: how many of them -/
theorem J_ct_im {g : Nat → Nat} {Q : Nat → Bool} {k : Nat} : ∀ (n : Nat) (P : Nat → Bool), (∀ j, j < n → g j < k) → (∀ i j, i < n → j < n → g i = g j → i = j) → (∀ c, P c = true ↔ ∃ j, j < n ∧ c = g j ∧ Q j = true) → J_ct P k = J_ct Q n
  | 0, P, _, _, h => J_ct_z k (fun c _ => by
      cases hc : P c with
      | false => rfl
      | true =>
        obtain ⟨j, hj, -⟩ := (h c).mp hc
        exact absurd hj (Nat.not_lt_zero j))
  | n + 1, P, hk, hi, h => by
    have hlt := hk n (by omega)
    cases hq : Q n with
    | true =>
      have hP' : ∀ c, (if c = g n then false else P c) = true ↔ ∃ j, j < n ∧ c = g j ∧ Q j = true := fun c => by
        by_cases hc : c = g n
        · rw [if_pos hc]
          constructor
          · intro q
            cases q
          · rintro ⟨j, h1, h2, -⟩
            have := hi j n (by omega) (by omega) (h2.symm.trans hc)
            omega
        · rw [if_neg hc, h c]
          constructor
          · rintro ⟨j, h1, h2, h3⟩
            have hj : j ≠ n := fun q => hc (by rw [h2, q])
            exact ⟨j, by omega, h2, h3⟩
          · rintro ⟨j, h1, h2, h3⟩
            exact ⟨j, by omega, h2, h3⟩
      have ih := J_ct_im n (fun c => if c = g n then false else P c) (fun j hj => hk j (by omega)) (fun i j a b => hi i j (by omega) (by omega)) hP'
      have hu := J_ct_u (P := fun c => if c = g n then false else P c) (i := g n) (if_pos rfl) k
      have e : J_ct P k = J_ct (fun c => if c = g n then true else (fun c => if c = g n then false else P c) c) k := J_ct_e k (fun c _ => by
        show P c = if c = g n then true else if c = g n then false else P c
        by_cases hc : c = g n
        · rw [if_pos hc, hc]
          exact (h _).mpr ⟨n, by omega, rfl, hq⟩
        · rw [if_neg hc, if_neg hc])
      rw [e, hu, ih, if_pos hlt, J_ct_s, hq]
      rfl
    | false =>
      have ih := J_ct_im n P (fun j hj => hk j (by omega)) (fun i j a b => hi i j (by omega) (by omega)) (fun c => by
        rw [h c]
        constructor
        · rintro ⟨j, h1, h2, h3⟩
          have hj : j ≠ n := fun q => by
            rw [q, hq] at h3
            cases h3
          exact ⟨j, by omega, h2, h3⟩
        · rintro ⟨j, h1, h2, h3⟩
          exact ⟨j, by omega, h2, h3⟩)
      rw [ih, J_ct_s, hq]
      rfl
end
section
-- BITS OF WORDS
theorem J_b_and (x y : Int64) (c : Nat) : J_b (x &&& y) c = (J_b x c && J_b y c) := BitVec.getLsbD_and
theorem J_b_or (x y : Int64) (c : Nat) : J_b (x ||| y) c = (J_b x c || J_b y c) := BitVec.getLsbD_or
theorem J_b_not (x : Int64) (c : Nat) : J_b (x ^^^ (-1)) c = (decide (c < 64) && !J_b x c) := by
  rw [Int64.xor_neg_one]
  exact BitVec.getLsbD_not
theorem J_b_ext {x y : Int64} (h : ∀ c, c < 64 → J_b x c = J_b y c) : x = y := Int64.toBitVec.inj (BitVec.eq_of_getLsbD_eq h)
theorem J_b_ge {x : Int64} {c : Nat} (h : 64 ≤ c) : J_b x c = false := BitVec.getLsbD_of_ge _ _ h
theorem J_b_zero (c : Nat) : J_b 0 c = false := BitVec.getLsbD_zero
theorem J_b_one (c : Nat) : J_b 1 c = decide (c = 0) := by
  show (1#64).getLsbD c = _
  rw [BitVec.getLsbD_one]
  rfl
theorem J_b_m1 (c : Nat) : J_b (-1) c = decide (c < 64) := by
  have e : (-1 : Int64).toBitVec = BitVec.allOnes 64 := by decide +kernel
  show (-1 : Int64).toBitVec.getLsbD c = _
  rw [e, BitVec.getLsbD_allOnes]
theorem J_z64 : ∀ k : Fin 64, (((ja_I (k.val : Int)).toInt64 &&& 63).toBitVec.smod 64).toNat = k.val := by decide +kernel
theorem J_b_shl (a : Int64) {z : Int} {k : Nat} (hz : z = (k : Int)) (hk : k < 64) (c : Nat) : J_b (ja_shl a z) c = (decide (c < 64) && !decide (c < k) && J_b a (c - k)) := by
  subst hz
  have h : (((ja_I (k : Int)).toInt64 &&& 63).toBitVec.smod 64).toNat = k := J_z64 ⟨k, hk⟩
  have e : (ja_shl a (k : Int)).toBitVec = a.toBitVec <<< (((ja_I (k : Int)).toInt64 &&& 63).toBitVec.smod 64) := rfl
  show (ja_shl a (k : Int)).toBitVec.getLsbD c = _
  rw [e, BitVec.getLsbD_shiftLeft', h]
theorem J_b_shr (a : Int64) {z : Int} {k : Nat} (hz : z = (k : Int)) (hk : k < 64) : ja_shr a z &&& 1 = 0 ↔ J_b a k = false := by
  subst hz
  have h : (((ja_I (k : Int)).toInt64 &&& 63).toBitVec.smod 64).toNat = k := J_z64 ⟨k, hk⟩
  have e : (ja_shr a (k : Int)).toBitVec = a.toBitVec.sshiftRight' (((ja_I (k : Int)).toInt64 &&& 63).toBitVec.smod 64) := rfl
  have e0 : J_b (ja_shr a (k : Int)) 0 = J_b a k := by
    show (ja_shr a (k : Int)).toBitVec.getLsbD 0 = _
    rw [e, BitVec.getLsbD_sshiftRight', h, Nat.add_zero, if_pos hk]
    rfl
  constructor
  · intro q
    have q2 : J_b (ja_shr a (k : Int) &&& 1) 0 = J_b 0 0 := congrArg (fun t => J_b t 0) q
    rw [J_b_and, e0, J_b_one, J_b_zero] at q2
    cases hb : J_b a k with
    | false => rfl
    | true =>
      rw [hb] at q2
      exact absurd q2 (by decide)
  · intro q
    refine J_b_ext (fun c hc => ?_)
    rw [J_b_and, J_b_one, J_b_zero]
    by_cases h0 : c = 0
    · subst h0
      rw [e0, q]
      rfl
    · rw [decide_eq_false h0, Bool.and_false]
theorem J_dm : ∀ k c : Fin 64, J_b (ja_shl 1 (k.val : Int) - 1) c.val = decide (c.val < k.val) := by decide +kernel
theorem J_b_mask {z : Int} {k : Nat} (hz : z = (k : Int)) (hk : k < 64) (c : Nat) : J_b (ja_shl 1 z - 1) c = decide (c < k) := by
  subst hz
  by_cases hc : c < 64
  · exact J_dm ⟨k, hk⟩ ⟨c, hc⟩
  · rw [J_b_ge (by omega), decide_eq_false (by omega)]
-- the cells of a line
theorem F_lbc_b {cols i : Int} (hc : 2 ≤ cols ∧ cols ≤ 6) (hi : 0 ≤ i ∧ i < cols) : ∀ (k : Nat), k ≤ 6 → ∀ c : Nat, J_b (F_lbc cols i k) c = true ↔ ∃ j : Nat, j < k ∧ (c : Int) = (j : Int) * cols + i
  | 0, _, c => by
    simp only [F_lbc]
    rw [J_b_zero]
    constructor
    · intro q
      cases q
    · rintro ⟨j, hj, -⟩
      omega
  | k + 1, hk, c => by
    have ih := F_lbc_b hc hi k (by omega) c
    have hb : 0 ≤ (k : Int) * cols + i ∧ (k : Int) * cols + i < 64 := by
      rcases (show cols = 2 ∨ cols = 3 ∨ cols = 4 ∨ cols = 5 ∨ cols = 6 by omega) with rfl | rfl | rfl | rfl | rfl <;> omega
    obtain ⟨e, he⟩ : ∃ e : Nat, (k : Int) * cols + i = (e : Int) := ⟨((k : Int) * cols + i).toNat, by omega⟩
    simp only [F_lbc]
    rw [J_b_or, J_b_shl 1 he (by omega), J_b_one]
    constructor
    · intro q
      rcases (Bool.or_eq_true _ _).mp q with q | q
      · obtain ⟨j, h1, h2⟩ := ih.mp q
        exact ⟨j, by omega, h2⟩
      · simp only [Bool.and_eq_true, decide_eq_true_eq, Bool.not_eq_true', decide_eq_false_iff_not] at q
        exact ⟨k, by omega, by rw [he]; omega⟩
    · rintro ⟨j, h1, h2⟩
      refine (Bool.or_eq_true _ _).mpr ?_
      by_cases hj : j = k
      · subst hj
        right
        simp only [Bool.and_eq_true, decide_eq_true_eq, Bool.not_eq_true', decide_eq_false_iff_not]
        rw [he] at h2
        omega
      · exact Or.inl (ih.mpr ⟨j, by omega, h2⟩)
/-- cell j of line i -/
def L_g (C r i j : Int) : Int := if r = 0 then j * C + i else i * C + j
theorem L_g_in {C r i j R : Int} (hC : 2 ≤ C ∧ C ≤ 6) (hR : 2 ≤ R ∧ R ≤ 6) (hi : 0 ≤ i ∧ i < if r = 0 then C else R) (hj : 0 ≤ j ∧ j < if r = 0 then R else C) : 0 ≤ L_g C r i j ∧ L_g C r i j < C * R ∧ C * R ≤ 36 := by
  unfold L_g
  by_cases h : r = 0
  · rw [if_pos h] at hi hj ⊢
    rcases (show C = 2 ∨ C = 3 ∨ C = 4 ∨ C = 5 ∨ C = 6 by omega) with rfl | rfl | rfl | rfl | rfl <;> omega
  · rw [if_neg h] at hi hj ⊢
    rcases (show C = 2 ∨ C = 3 ∨ C = 4 ∨ C = 5 ∨ C = 6 by omega) with rfl | rfl | rfl | rfl | rfl <;> omega
theorem L_g_inj {C r i j j' : Int} (hC : 2 ≤ C ∧ C ≤ 6) (h : L_g C r i j = L_g C r i j') : j = j' := by
  unfold L_g at h
  by_cases h0 : r = 0
  · rw [if_pos h0, if_pos h0] at h
    rcases (show C = 2 ∨ C = 3 ∨ C = 4 ∨ C = 5 ∨ C = 6 by omega) with rfl | rfl | rfl | rfl | rfl <;> omega
  · rw [if_neg h0, if_neg h0] at h
    omega
/-- the number of a line's cells -/
abbrev F_cs (mem : ja_M) (s : Nat) (r : Int) : Int := if r = 0 then mem s 4 else mem s 3
abbrev F_cn (mem : ja_M) (s : Nat) (r : Int) : Int := if r = 0 then mem s 3 else mem s 4
theorem F_lb_b {mem : ja_M} {s : Nat} {r i : Int} (hS : ja_SO mem s) (hi : 0 ≤ i ∧ i < F_cn mem s r) (c : Nat) : J_b (F_lb mem s r i) c = true ↔ ∃ j : Nat, (j : Int) < F_cs mem s r ∧ (c : Int) = L_g (mem s 3) r i j := by
  obtain ⟨-, -, -, h3, h4, -⟩ := hS
  unfold F_lb F_cs L_g
  unfold F_cn at hi
  by_cases h0 : r = 0
  · rw [if_pos h0] at hi
    rw [if_pos h0, F_lbc_b h3 hi _ (by omega)]
    constructor
    · rintro ⟨j, a, b⟩
      exact ⟨j, by rw [if_pos h0]; omega, by rw [if_pos h0]; exact b⟩
    · rintro ⟨j, a, b⟩
      rw [if_pos h0] at a b
      exact ⟨j, by omega, b⟩
  · rw [if_neg h0] at hi
    obtain ⟨C, hC⟩ : ∃ C : Nat, mem s 3 = (C : Int) := ⟨(mem s 3).toNat, by omega⟩
    have hb : 0 ≤ i * mem s 3 ∧ i * mem s 3 ≤ 30 := by
      rcases (show mem s 3 = 2 ∨ mem s 3 = 3 ∨ mem s 3 = 4 ∨ mem s 3 = 5 ∨ mem s 3 = 6 by omega) with h | h | h | h | h <;> rw [h] <;> omega
    obtain ⟨e, he⟩ : ∃ e : Nat, i * mem s 3 = (e : Int) := ⟨(i * mem s 3).toNat, by omega⟩
    rw [if_neg h0, J_b_shl _ he (by omega), J_b_mask hC (by omega)]
    simp only [Bool.and_eq_true, decide_eq_true_eq, Bool.not_eq_true', decide_eq_false_iff_not]
    constructor
    · rintro ⟨⟨a1, a2⟩, a3⟩
      exact ⟨c - e, by rw [if_neg h0]; omega, by rw [if_neg h0, he]; omega⟩
    · rintro ⟨j, a, b⟩
      rw [if_neg h0] at a b
      rw [he] at b
      omega
-- packets' words
abbrev J_c (p : Int) (e : Nat) : Bool := (ja_I p).toBitVec.getLsbD e
/-- the place of a packet in its block's word -/
def F_pe (r i : Int) : Int := if r = 0 then 6 + i else i
theorem J_dp : ∀ e c : Fin 32, (ja_I 1 <<< (ja_I (e.val : Int) &&& 31)).toBitVec.getLsbD c.val = decide (c.val = e.val) := by decide +kernel
theorem J_c_pb {r i : Int} {e : Nat} (he : F_pe r i = (e : Int)) (h : e < 32) (c : Nat) : J_c (F_pb r i) c = decide (c = e) := by
  have e1 : ja_I (F_pb r i) = ja_I 1 <<< (ja_I (e : Int) &&& 31) := by
    rw [← he]
    exact Int32.ofInt_toInt _
  show (ja_I (F_pb r i)).toBitVec.getLsbD c = _
  rw [e1]
  by_cases hc : c < 32
  · exact J_dp ⟨e, h⟩ ⟨c, hc⟩
  · rw [BitVec.getLsbD_of_ge _ _ (by omega), decide_eq_false (by omega)]
theorem F_and_b {p r i : Int} {e : Nat} (he : F_pe r i = (e : Int)) (h : e < 32) : F_and p (F_pb r i) = 0 ↔ J_c p e = false := by
  have hb : ∀ c, (ja_I p &&& ja_I (F_pb r i)).toBitVec.getLsbD c = (J_c p c && decide (c = e)) := fun c => by
    rw [← J_c_pb he h c]
    exact BitVec.getLsbD_and
  have h0 : F_and p (F_pb r i) = 0 ↔ ja_I p &&& ja_I (F_pb r i) = 0 := by
    show (ja_I p &&& ja_I (F_pb r i)).toInt = 0 ↔ _
    constructor
    · intro q
      exact Int32.toInt.inj (q.trans rfl)
    · intro q
      rw [q]
      rfl
  rw [h0]
  constructor
  · intro q
    have q2 := hb e
    rw [q, decide_eq_true rfl, Bool.and_true] at q2
    rw [← q2]
    exact BitVec.getLsbD_zero
  · intro q
    refine Int32.toBitVec.inj (BitVec.eq_of_getLsbD_eq (fun c _ => ?_))
    rw [hb]
    refine Eq.trans ?_ (BitVec.getLsbD_zero (i := c)).symm
    by_cases hc : c = e
    · subst hc
      rw [q]
      rfl
    · rw [decide_eq_false hc, Bool.and_false]
theorem F_or_b {p r i : Int} {e : Nat} (he : F_pe r i = (e : Int)) (h : e < 32) (c : Nat) : J_c (F_or p (F_pb r i)) c = (J_c p c || decide (c = e)) := by
  have e1 : ja_I (F_or p (F_pb r i)) = ja_I p ||| ja_I (F_pb r i) := Int32.ofInt_toInt _
  show (ja_I (F_or p (F_pb r i))).toBitVec.getLsbD c = _
  rw [e1, ← J_c_pb he h c]
  exact BitVec.getLsbD_or
theorem F_pe_in {C R r i : Int} (hC : 2 ≤ C ∧ C ≤ 6) (hR : 2 ≤ R ∧ R ≤ 6) (hi : 0 ≤ i ∧ i < if r = 0 then C else R) : 0 ≤ F_pe r i ∧ F_pe r i < 12 ∧ ((r = 0 → 6 ≤ F_pe r i) ∧ (¬ r = 0 → F_pe r i < 6)) := by
  unfold F_pe
  by_cases h : r = 0
  · rw [if_pos h] at hi ⊢
    omega
  · rw [if_neg h] at hi ⊢
    omega
theorem ja_L_toInt (x : Int64) : ja_L x.toInt = x := Int64.ofInt_toInt x
end
section
-- RESTORING, FOR BOTH
theorem J_ct_add {P Q R : Nat → Bool} : ∀ n : Nat, (∀ c, c < n → (P c).toNat = (Q c).toNat + (R c).toNat) → J_ct P n = J_ct Q n + J_ct R n
  | 0, _ => rfl
  | n + 1, h => by
    have ih := J_ct_add n (fun c hc => h c (by omega))
    have hn := h n (by omega)
    rw [J_ct_s, J_ct_s, J_ct_s]
    omega
theorem J_le1 {p q : Bool} (h : q = true → p = true) : q.toNat ≤ p.toNat := by
  cases q with
  | false => exact Nat.zero_le _
  | true =>
    rw [h rfl]
    exact Nat.le_refl _
theorem J_ct_le {P Q : Nat → Bool} : ∀ n : Nat, (∀ c, c < n → Q c = true → P c = true) → J_ct Q n ≤ J_ct P n
  | 0, _ => Nat.le_refl _
  | n + 1, h => by
    have ih := J_ct_le n (fun c hc => h c (by omega))
    have hn := J_le1 (h n (by omega))
    rw [J_ct_s, J_ct_s]
    omega
theorem J_ct_eq {P Q : Nat → Bool} : ∀ n : Nat, (∀ c, c < n → Q c = true → P c = true) → J_ct P n = J_ct Q n → ∀ c, c < n → P c = true → Q c = true
  | 0, _, _, c, hc, _ => absurd hc (Nat.not_lt_zero c)
  | n + 1, h, e, c, hc, hp => by
    have hl := J_ct_le n (fun c hc => h c (by omega))
    have hn := J_le1 (h n (by omega))
    rw [J_ct_s, J_ct_s] at e
    by_cases hcn : c = n
    · subst hcn
      rw [hp, J_t1] at e hn
      cases hq : Q c with
      | true => rfl
      | false =>
        rw [hq, J_t0] at e
        omega
    · exact J_ct_eq n (fun c hc => h c (by omega)) (by omega) c (by omega) hp
theorem J_ct_tail {P : Nat → Bool} {n : Nat} (h : ∀ c, n ≤ c → P c = false) : ∀ d : Nat, J_ct P (n + d) = J_ct P n
  | 0 => rfl
  | d + 1 => by
    rw [show n + (d + 1) = (n + d) + 1 by omega, J_ct_s, J_ct_tail h d, h (n + d) (by omega)]
    rfl
/-- the known cells of block k -/
def K_b (v : Nat → Int) (k : Int) (x : Int64) : Prop := ∀ c : Nat, (c : Int) < N_ar v → (J_b x c = true ↔ N_kn v (N_ar v * k + c))
/-- the unknown ones, counted -/
def J_Z (n : Nat) (x : Int64) : Nat := J_ct (fun c => !J_b x c) n
theorem N_cv_g (v : Nat → Int) (r k i j : Int) : N_cv v r k i j = N_ar v * k + L_g (v 3) r i j := by
  unfold N_cv L_g
  rw [Int.mul_comm j, Int.mul_comm i]
theorem N_r1_iff {v : Nat → Int} {r k i : Int} (hS : N_S v) (hk : N_hB v k) (hi : 0 ≤ i ∧ i ≤ 6) {y : Int} (hy : 0 ≤ y) : ∀ n : Nat, n ≤ 6 → (N_kn (N_r1 v r k i n) y ↔ N_kn v y ∨ ∃ j : Nat, j < n ∧ y = N_cv v r k i j)
  | 0, _ => by
    constructor
    · exact Or.inl
    · rintro (h | ⟨j, hj, -⟩)
      · exact h
      · omega
  | n + 1, hn => by
    have ih := N_r1_iff (r := r) hS hk hi hy n (by omega)
    have hc := N_cv_in (r := r) (j := (n : Int)) hS hk hi ⟨by omega, by omega⟩
    simp only [N_r1]
    by_cases hq : N_kn (N_r1 v r k i n) (N_cv v r k i n)
    · rw [if_pos hq]
      constructor
      · intro h
        rcases ih.mp h with h | ⟨j, h1, h2⟩
        · exact Or.inl h
        · exact Or.inr ⟨j, by omega, h2⟩
      · rintro (h | ⟨j, h1, h2⟩)
        · exact ih.mpr (Or.inl h)
        · by_cases hj : j = n
          · subst hj
            rw [h2]
            exact hq
          · exact ih.mpr (Or.inr ⟨j, by omega, h2⟩)
    · rw [if_neg hq]
      by_cases hyc : y = N_cv v r k i n
      · constructor
        · intro _
          exact Or.inr ⟨n, by omega, hyc⟩
        · intro _
          refine Or.inr ?_
          rw [hyc, ja_rs_s]
          decide
      · have e : N_kn (ja_rs (N_r1 v r k i n) (30 + N_cv v r k i n).toNat 1) y ↔ N_kn (N_r1 v r k i n) y := by
          unfold N_kn
          rw [ja_rs_n (by omega)]
        rw [e, ih]
        constructor
        · rintro (h | ⟨j, h1, h2⟩)
          · exact Or.inl h
          · exact Or.inr ⟨j, by omega, h2⟩
        · rintro (h | ⟨j, h1, h2⟩)
          · exact Or.inl h
          · by_cases hj : j = n
            · subst hj
              exact absurd h2 hyc
            · exact Or.inr ⟨j, by omega, h2⟩
section
variable {mem : ja_M} {s : Nat} {v : Nat → Int} {r k i : Int} {x : Int64}
theorem F_lb_im (hSO : ja_SO mem s) (hi : 0 ≤ i ∧ i < F_cn mem s r) (x : Int64) (c : Nat) : J_b (F_lb mem s r i &&& (x ^^^ (-1))) c = true ↔ ∃ j : Nat, j < (F_cs mem s r).toNat ∧ c = (L_g (mem s 3) r i j).toNat ∧ (!J_b x (L_g (mem s 3) r i j).toNat) = true := by
  obtain ⟨-, -, -, h3, h4, -⟩ := id hSO
  rw [J_b_and, J_b_not, Bool.and_eq_true, Bool.and_eq_true]
  constructor
  · rintro ⟨q1, q2, q3⟩
    obtain ⟨j, g1, g2⟩ := (F_lb_b hSO hi c).mp q1
    have hc : c = (L_g (mem s 3) r i j).toNat := by omega
    exact ⟨j, by omega, hc, by rw [← hc]; exact q3⟩
  · rintro ⟨j, g1, g2, g3⟩
    have hj : (j : Int) < F_cs mem s r := by omega
    have hg := L_g_in (r := r) (i := i) (j := j) h3 h4 hi ⟨by omega, hj⟩
    rw [← g2] at g3
    exact ⟨(F_lb_b hSO hi c).mpr ⟨j, hj, by omega⟩, decide_eq_true (by omega : c < 64), g3⟩
theorem F_lb_ct (hSO : ja_SO mem s) (hi : 0 ≤ i ∧ i < F_cn mem s r) (x : Int64) (n : Nat) (hn : mem s 3 * mem s 4 ≤ n) : J_ct (J_b (F_lb mem s r i &&& (x ^^^ (-1)))) n = J_ct (fun j => !J_b x (L_g (mem s 3) r i j).toNat) (F_cs mem s r).toNat := by
  obtain ⟨-, -, -, h3, h4, -⟩ := id hSO
  have hg : ∀ j : Nat, j < (F_cs mem s r).toNat → 0 ≤ L_g (mem s 3) r i j ∧ L_g (mem s 3) r i j < mem s 3 * mem s 4 := fun j hj => by
    have := L_g_in (r := r) (i := i) (j := j) h3 h4 hi ⟨by omega, by show (j : Int) < F_cs mem s r; omega⟩
    exact ⟨this.1, this.2.1⟩
  refine J_ct_im (g := fun j => (L_g (mem s 3) r i j).toNat) (F_cs mem s r).toNat _ (fun j hj => by have := hg j hj; omega) (fun a b ha hb e => ?_) (fun c => F_lb_im hSO hi x c)
  have h1 := hg a ha
  have h2 := hg b hb
  have e2 : L_g (mem s 3) r i a = L_g (mem s 3) r i b := by
    have e' : (L_g (mem s 3) r i a).toNat = (L_g (mem s 3) r i b).toNat := e
    omega
  have := L_g_inj h3 e2
  omega
theorem N_mi_ct : ∀ n : Nat, (∀ j : Nat, j < n → (J_b x (L_g (v 3) r i j).toNat = true ↔ N_kn v (N_cv v r k i j))) → N_mi v r k i n = ((J_ct (fun j => !J_b x (L_g (v 3) r i j).toNat) n : Nat) : Int)
  | 0, _ => rfl
  | n + 1, h => by
    have ih := N_mi_ct n (fun j hj => h j (by omega))
    have hn := h n (by omega)
    simp only [N_mi]
    rw [ih, J_ct_s]
    by_cases hq : N_kn v (N_cv v r k i n)
    · rw [if_pos hq, hn.mpr hq]
      rfl
    · rw [if_neg hq]
      have hb : J_b x (L_g (v 3) r i n).toNat = false := by
        cases hb : J_b x (L_g (v 3) r i n).toNat with
        | false => rfl
        | true => exact absurd (hn.mp hb) hq
      rw [hb]
      rfl
/-- missing frames of a line -/
theorem F_mi (hSO : ja_SO mem s) (hs : ∀ j, j < 9 → mem s j = v j) (hK : K_b v k x) (hi : 0 ≤ i ∧ i < F_cn mem s r) (n : Nat) (hn : mem s 3 * mem s 4 ≤ n) : ((J_ct (J_b (F_lb mem s r i &&& (x ^^^ (-1)))) n : Nat) : Int) = N_mi v r k i (N_cs v r).toNat := by
  obtain ⟨-, -, -, h3, h4, -⟩ := id hSO
  have e3 := hs 3 (by omega)
  have e4 := hs 4 (by omega)
  have ecs : F_cs mem s r = N_cs v r := by
    unfold F_cs N_cs
    rw [e3, e4]
  rw [F_lb_ct hSO hi x n hn, N_mi_ct (x := x) (N_cs v r).toNat (fun j hj => ?_), ecs, e3]
  have hg := L_g_in (r := r) (i := i) (j := j) h3 h4 hi ⟨by omega, by show (j : Int) < F_cs mem s r; omega⟩
  rw [e3, e4] at hg
  rw [N_cv_g]
  have := hK (L_g (v 3) r i j).toNat (by unfold N_ar; omega)
  rw [show (((L_g (v 3) r i j).toNat : Nat) : Int) = L_g (v 3) r i j by omega] at this
  exact this
/-- what both go through together -/
def F_sy (mem : ja_M) (s : Nat) (p a k : Int) (v : Nat → Int) (x : Int64) : Prop := N_S v ∧ N_hB v k ∧ (∀ j, j < 9 → mem s j = v j) ∧ (∀ r j : Int, 0 ≤ r → r ≤ 1 → 0 ≤ j → j < F_cn mem s r → (F_and p (F_pb r j) = 0 ↔ ¬ (¬ a = 0 ∨ v (N_pk v r k j).toNat = 1))) ∧ K_b v k x
/-- what changed lies in the block, and is 1 -/
def N_ch (k : Int) (v w : Nat → Int) : Prop := ∀ j : Nat, w j = v j ∨ (w j = 1 ∧ ∃ c : Nat, (c : Int) < N_ar v ∧ (j : Int) = 30 + (N_ar v * k + c))
theorem N_ch.rf {k : Int} {v : Nat → Int} : N_ch k v v := fun _ => Or.inl rfl
theorem N_ch.tr {k : Int} {v w u : Nat → Int} (ha : N_ar w = N_ar v) (h : N_ch k v w) (h2 : N_ch k w u) : N_ch k v u := fun j => by
  rcases h2 j with e | ⟨e, c, c1, c2⟩
  · rw [e]
    exact h j
  · rw [ha] at c1 c2
    exact Or.inr ⟨e, c, c1, c2⟩
theorem N_r1_ch {v : Nat → Int} {r k i : Int} (hS : N_S v) (hk : N_hB v k) (hi : 0 ≤ i ∧ i < if r = 0 then v 3 else v 4) : ∀ n : Nat, (n : Int) ≤ N_cs v r → N_ch k v (N_r1 v r k i n)
  | 0, _ => N_ch.rf
  | n + 1, hn => by
    have ih := N_r1_ch hS hk hi n (by omega)
    obtain ⟨-, -, -, s3, s4, -⟩ := id hS
    have hb := N_bk hS hk
    simp only [N_r1]
    split
    · exact ih
    · intro j
      by_cases hj : j = (30 + N_cv v r k i n).toNat
      · have hg := L_g_in (r := r) (i := i) (j := n) s3 s4 hi ⟨by omega, by unfold N_cs at hn; omega⟩
        refine Or.inr ⟨by rw [hj, ja_rs_s], (L_g (v 3) r i n).toNat, by unfold N_ar; omega, ?_⟩
        rw [N_cv_g] at hj
        omega
      · rw [ja_rs_n hj]
        exact ih j
def F_go (k : Int) (v : Nat → Int) (x : Int64) (w : Nat → Int) (y : Int64) (d : Int) : Prop := (N_fr v w ∧ N_ch k v w) ∧ K_b w k y ∧ d + ((J_Z (N_ar v).toNat y : Nat) : Int) = ((J_Z (N_ar v).toNat x : Nat) : Int) ∧ (∀ c, J_b x c = true → J_b y c = true) ∧ ∀ c : Nat, N_ar v ≤ c → J_b y c = J_b x c
theorem F_go.rf (h : K_b v k x) : F_go k v x v x 0 := ⟨⟨N_fr.rf, N_ch.rf⟩, h, by omega, fun _ q => q, fun _ _ => rfl⟩
theorem F_go.tr {w u : Nat → Int} {y z : Int64} {d e : Int} (h : F_go k v x w y d) (h2 : F_go k w y u z e) : F_go k v x u z (d + e) := by
  obtain ⟨⟨a1, a0⟩, a2, a3, a4, a5⟩ := h
  obtain ⟨⟨b1, b0⟩, b2, b3, b4, b5⟩ := h2
  rw [a1.ss.ar] at b3 b5
  exact ⟨⟨a1.tr b1, a0.tr a1.ss.ar b0⟩, b2, by omega, fun c q => b4 c (a4 c q), fun c q => (b5 c q).trans (a5 c q)⟩
theorem F_sy.go {p a : Int} {w : Nat → Int} {y : Int64} {d : Int} (h : F_sy mem s p a k v x) (g : F_go k v x w y d) : F_sy mem s p a k w y := by
  obtain ⟨h1, h2, h3, h4, -⟩ := h
  obtain ⟨⟨g1, -⟩, g2, -⟩ := g
  refine ⟨g1.ss.S h1, g1.ss.hB.mpr h2, fun j hj => (h3 j hj).trans (g1.ss j hj).symm, fun r j r0 r1 j0 j1 => ?_, g2⟩
  rw [h4 r j r0 r1 j0 j1, g1.ss.pk]
  have hcn : 0 ≤ j ∧ j ≤ 6 := by
    obtain ⟨-, -, -, s3, s4, -⟩ := h1
    rw [← h3 3 (by omega)] at s3
    rw [← h3 4 (by omega)] at s4
    unfold F_cn at j1
    split at j1 <;> omega
  have hp := N_pk_in (r := r) h1 h2 hcn
  rw [g1.1 _ (by omega)]
/-- one line -/
theorem F_wl_N {p a : Int} (hSO : ja_SO mem s) (h : F_sy mem s p a k v x) (hr : 0 ≤ r ∧ r ≤ 1) (hi : 0 ≤ i ∧ i < F_cn mem s r) : F_go k v x (if ¬ a = 0 ∨ v (N_pk v r k i).toNat = 1 then N_rv v r k i else v) (F_wl mem s x p r i) (if ¬ a = 0 ∨ v (N_pk v r k i).toNat = 1 then N_rn v r k i else 0) := by
  obtain ⟨h1, h2, h3, h4, h5⟩ := h
  have hp := h4 r i hr.1 hr.2 hi.1 hi.2
  obtain ⟨-, -, -, s3, s4, -⟩ := id hSO
  have hi6 : 0 ≤ i ∧ i ≤ 6 := by
    unfold F_cn at hi
    split at hi <;> omega
  have har := N_ar_in h1
  have e3 := h3 3 (by omega)
  have e4 := h3 4 (by omega)
  have ear : mem s 3 * mem s 4 = N_ar v := by
    unfold N_ar
    rw [e3, e4]
  have hcs := @N_cs_in v r h1
  have ecs : F_cs mem s r = N_cs v r := by
    unfold F_cs N_cs
    rw [e3, e4]
  unfold F_wl
  by_cases hz : F_and p (F_pb r i) = 0
  · rw [if_pos hz, if_neg (hp.mp hz), if_neg (hp.mp hz)]
    exact F_go.rf h5
  · have hz2 : ¬ a = 0 ∨ v (N_pk v r k i).toNat = 1 := Decidable.byContradiction fun q => hz (hp.mpr q)
    rw [if_neg hz, if_pos hz2, if_pos hz2, J_bc_ct, F_mi hSO h3 h5 hi 64 (by omega)]
    unfold N_rv N_rn
    by_cases hm : N_mi v r k i (N_cs v r).toNat = 1
    · rw [if_pos hm, if_pos hm, if_pos hm]
      have hfr := N_r1_fr (r := r) h1 h2 hi6 (N_cs v r).toNat (by omega)
      have hbit : ∀ c, J_b (x ||| (F_lb mem s r i &&& (x ^^^ (-1)))) c = true ↔ J_b x c = true ∨ ∃ j : Nat, (j : Int) < F_cs mem s r ∧ (c : Int) = L_g (mem s 3) r i j := fun c => by
        rw [J_b_or, Bool.or_eq_true]
        constructor
        · rintro (q | q)
          · exact Or.inl q
          · rw [J_b_and, Bool.and_eq_true] at q
            exact Or.inr ((F_lb_b hSO hi c).mp q.1)
        · rintro (q | q)
          · exact Or.inl q
          · cases hx : J_b x c with
            | true => exact Or.inl rfl
            | false =>
              refine Or.inr ?_
              have hc : c < 64 := by
                obtain ⟨j, g1, g2⟩ := q
                have := L_g_in (r := r) (i := i) (j := j) s3 s4 hi ⟨by omega, g1⟩
                omega
              rw [J_b_and, J_b_not, (F_lb_b hSO hi c).mpr q, hx, decide_eq_true hc]
              rfl
      have hi2 : 0 ≤ i ∧ i < if r = 0 then v 3 else v 4 := by
        unfold F_cn at hi
        rw [e3, e4] at hi
        exact hi
      refine ⟨⟨hfr, N_r1_ch h1 h2 hi2 _ (by omega)⟩, fun c hc => ?_, ?_, fun c q => (hbit c).mpr (Or.inl q), fun c hc => ?_⟩
      · rw [hfr.ss.ar] at hc ⊢
        have hb := N_bk h1 h2
        rw [hbit, N_r1_iff (r := r) h1 h2 hi6 (by omega) _ (by omega), h5 c hc]
        refine or_congr Iff.rfl ⟨?_, ?_⟩
        · rintro ⟨j, g1, g2⟩
          exact ⟨j, by omega, by rw [N_cv_g, ← e3]; omega⟩
        · rintro ⟨j, g1, g2⟩
          rw [N_cv_g, ← e3] at g2
          exact ⟨j, by omega, by omega⟩
      · have hadd : J_Z (N_ar v).toNat x = J_Z (N_ar v).toNat (x ||| (F_lb mem s r i &&& (x ^^^ (-1)))) + J_ct (J_b (F_lb mem s r i &&& (x ^^^ (-1)))) (N_ar v).toNat := J_ct_add _ (fun c hc => by
          rw [J_b_or, J_b_and, J_b_not, decide_eq_true (by omega : c < 64)]
          cases J_b x c <;> cases J_b (F_lb mem s r i) c <;> rfl)
        have hmi := F_mi hSO h3 h5 hi (N_ar v).toNat (by omega)
        rw [hm] at hmi
        omega
      · have hn : J_b (F_lb mem s r i) c = false := by
          cases hb : J_b (F_lb mem s r i) c with
          | false => rfl
          | true =>
            obtain ⟨j, g1, g2⟩ := (F_lb_b hSO hi c).mp hb
            have := L_g_in (r := r) (i := i) (j := j) s3 s4 hi ⟨by omega, g1⟩
            omega
        rw [J_b_or, J_b_and, hn, Bool.false_and, Bool.or_false]
    · rw [if_neg hm, if_neg hm, if_neg hm]
      exact F_go.rf h5
theorem F_ln_N {p a : Int} (hSO : ja_SO mem s) (h : F_sy mem s p a k v x) (hr : 0 ≤ r ∧ r ≤ 1) : ∀ n : Nat, (n : Int) ≤ F_cn mem s r → F_go k v x (N_rr a v r k n).2 (F_ln mem s p r x n) (N_rr a v r k n).1
  | 0, _ => F_go.rf h.2.2.2.2
  | n + 1, hn => by
    have ih := F_ln_N hSO h hr n (by omega)
    have hs := h.go ih
    have hw := F_wl_N (r := r) (i := (n : Int)) hSO hs hr ⟨by omega, by omega⟩
    rw [ih.1.1.ss.pk] at hw
    have ht := ih.tr hw
    simp only [N_rr, F_ln]
    by_cases hq : ¬ a = 0 ∨ (N_rr a v r k n).2 (N_pk v r k n).toNat = 1
    · rw [if_pos hq]
      rw [if_pos hq, if_pos hq] at ht
      exact ht
    · rw [if_neg hq]
      rw [if_neg hq, if_neg hq, Int.add_zero] at ht
      exact ht
theorem F_rd_N {p a : Int} (hSO : ja_SO mem s) (h : F_sy mem s p a k v x) : F_go k v x (N_rd a v k).2 (F_rd mem s p x) (N_rd a v k).1 := by
  have e3 := h.2.2.1 3 (by omega)
  have e4 := h.2.2.1 4 (by omega)
  obtain ⟨-, -, -, s3, s4, -⟩ := id hSO
  have h1 := F_ln_N (r := 1) hSO h (by omega) (v 4).toNat (by unfold F_cn; rw [if_neg (by omega)]; omega)
  have h2 := F_ln_N (r := 0) hSO (h.go h1) (by omega) (v 3).toNat (by unfold F_cn; rw [if_pos rfl]; omega)
  have ht := h1.tr h2
  unfold N_rd F_rd
  rw [e3, e4]
  exact ht
theorem J_Z_eq {y : Int64} {n : Nat} (hm : ∀ c, J_b x c = true → J_b y c = true) (he : J_Z n y = J_Z n x) (hb : ∀ c, n ≤ c → J_b y c = J_b x c) : y = x := by
  refine J_b_ext (fun c _ => ?_)
  by_cases hc : c < n
  · have h := J_ct_eq (P := fun c => !J_b x c) (Q := fun c => !J_b y c) n (fun c _ q => by
      cases hx : J_b x c with
      | false => rfl
      | true =>
        have q2 : (!J_b y c) = true := q
        rw [hm c hx] at q2
        cases q2) he.symm c hc
    cases hx : J_b x c with
    | true => exact hm c hx
    | false =>
      have h2 : (!J_b y c) = true := h (by show (!J_b x c) = true; rw [hx]; rfl)
      cases hy : J_b y c with
      | false => rfl
      | true =>
        rw [hy] at h2
        cases h2
  · exact hb c (by omega)
/-- as long as something is restored -/
theorem F_cp_N {p a : Int} (hSO : ja_SO mem s) : ∀ (kf nf : Nat) (v : Nat → Int) (x : Int64) (n0 : Int), F_sy mem s p a k v x → J_Z (N_ar v).toNat x < kf → J_Z (N_ar v).toNat x < nf → ∃ d : Int, (N_rs a k nf n0 v).1 = n0 + d ∧ F_go k v x (N_rs a k nf n0 v).2 (F_cp mem s p kf x) d
  | 0, _, v, x, n0, _, h, _ => by omega
  | kf + 1, 0, v, x, n0, _, _, h => by omega
  | kf + 1, nf + 1, v, x, n0, h, h1, h2 => by
    have hg := F_rd_N hSO h
    simp only [F_cp, N_rs]
    have har := N_ar_in h.1
    by_cases hx : F_rd mem s p x = x
    · rw [if_pos hx]
      rw [hx] at hg
      have hd : (N_rd a v k).1 = 0 := by
        have := hg.2.2.1
        omega
      rw [if_pos hd]
      rw [hd] at hg
      exact ⟨0, by omega, hg⟩
    · rw [if_neg hx]
      obtain ⟨⟨g1, -⟩, g2, g3, g4, g5⟩ := id hg
      have hd : ¬ (N_rd a v k).1 = 0 := fun q => hx (J_Z_eq (n := (N_ar v).toNat) g4 (by omega) (fun c hc => g5 c (by omega)))
      have hle : J_Z (N_ar v).toNat (F_rd mem s p x) ≤ J_Z (N_ar v).toNat x := J_ct_le _ (fun c _ q => by
        cases hx : J_b x c with
        | false => rfl
        | true =>
          have q2 : (!J_b (F_rd mem s p x) c) = true := q
          rw [g4 c hx] at q2
          cases q2)
      rw [if_neg hd]
      obtain ⟨d, d1, d2⟩ := F_cp_N hSO kf nf _ _ (n0 + (N_rd a v k).1) (h.go hg) (by rw [g1.ss.ar]; omega) (by rw [g1.ss.ar]; omega)
      exact ⟨(N_rd a v k).1 + d, by rw [d1]; omega, hg.tr d2⟩
end
end
section
-- THE FRAMES OF BOTH
def S_f : S_T := fun mem b v => (∀ k c : Nat, (c : Int) < N_ar v → N_ar v * k + c ≤ 999 → (J_b (ja_L (mem (b + 4) k)) c = true ↔ v (30 + (N_ar v * k + c)).toNat = 2) ∧ (J_b (ja_L (mem (b + 3) k)) c = true ↔ 0 < v (30 + (N_ar v * k + c)).toNat)) ∧ ∀ r k i : Int, 0 ≤ r → r ≤ 1 → N_hP v r k i → (F_and (mem (b + 5) k.toNat) (F_pb r i) = 0 ↔ ¬ v (N_pk v r k i).toNat = 1)
theorem ja_L0 : ja_L 0 = 0 := rfl
theorem blk_inj {a k k' c c' : Int} (hc : 0 ≤ c ∧ c < a) (hc' : 0 ≤ c' ∧ c' < a) (h : a * k + c = a * k' + c') : k = k' ∧ c = c' := by
  have e1 : (a * k + c) / a = k := by
    rw [Int.add_comm, Int.add_mul_ediv_left _ _ (by omega), Int.ediv_eq_zero_of_lt hc.1 hc.2]
    omega
  have e2 : (a * k' + c') / a = k' := by
    rw [Int.add_comm, Int.add_mul_ediv_left _ _ (by omega), Int.ediv_eq_zero_of_lt hc'.1 hc'.2]
    omega
  have e3 : k = k' := by rw [← e1, ← e2, h]
  subst e3
  exact ⟨rfl, by omega⟩
/-- a frame's block and cell -/
theorem blk_of {a x : Int} (ha : 0 < a) (hx : 0 ≤ x) : ∃ k c : Nat, x / a = (k : Int) ∧ x % a = (c : Int) ∧ (c : Int) < a ∧ x = a * k + c := by
  have h1 := Int.ediv_nonneg hx (by omega : 0 ≤ a)
  have h2 := Int.emod_nonneg x (by omega : a ≠ 0)
  have h3 := Int.emod_lt_of_pos x ha
  have h4 := Int.mul_ediv_add_emod x a
  refine ⟨(x / a).toNat, (x % a).toNat, by omega, by omega, by omega, ?_⟩
  rw [show (((x / a).toNat : Nat) : Int) = x / a by omega, show (((x % a).toNat : Nat) : Int) = x % a by omega]
  exact h4.symm
theorem S_f_cg {mem mem' : ja_M} {b : Nat} {v v' : Nat → Int} (hS : N_S v) (hm : ∀ q, b + 3 ≤ q → q ≤ b + 5 → mem' q = mem q) (hv : ∀ j, (j < 9 ∨ (30 ≤ j ∧ j < 2054)) → v' j = v j) (h : S_f mem b v) : S_f mem' b v' := by
  have ss : N_ss v v' := fun j hj => hv j (Or.inl hj)
  obtain ⟨h1, h2⟩ := h
  refine ⟨fun k c hc hx => ?_, fun r k i r0 r1 hP => ?_⟩
  · rw [ss.ar] at hc hx ⊢
    have har := N_ar_in hS
    have h0 := Int.mul_nonneg (by omega : 0 ≤ N_ar v) (by omega : 0 ≤ (k : Int))
    rw [hm _ (by omega) (by omega), hm _ (by omega) (by omega), hv _ (by omega)]
    exact h1 k c hc hx
  · have hP2 := ss.hP.mp hP
    have hp := N_pk_in (r := r) hS hP2.1 (N_hP_6 hS hP2)
    rw [hm _ (by omega) (by omega), ss.pk, hv _ (by omega)]
    exact h2 r k i r0 r1 hP2
theorem F_st_v {mem : ja_M} {b : Nat} {v : Nat → Int} (hR : N_R v) (hs : ∀ j, j < 9 → mem (b + 1) j = v j) (h : S_f mem b v) {x : Int} (hx : 0 ≤ x ∧ x ≤ 999) : F_st mem (b + 1) (b + 2) x = v (30 + x).toNat := by
  have har := N_ar_in hR.S
  have hc := S_b_cells hs
  obtain ⟨k, c, e1, e2, e3, e4⟩ := blk_of (by omega : 0 < N_ar v) hx.1
  obtain ⟨a1, a2⟩ := h.1 k c e3 (by omega)
  rw [← e4] at a1 a2
  have hF := hR.F (j := (30 + x).toNat) (by omega) (by omega)
  unfold F_st
  rw [hc, e1, e2, show b + 2 + 2 = b + 4 from rfl, show b + 2 + 1 = b + 3 from rfl, show ((k : Nat) : Int).toNat = k from rfl]
  have b1 := J_b_shr (ja_L (mem (b + 4) k)) (z := (c : Int)) rfl (by omega)
  have b2 := J_b_shr (ja_L (mem (b + 3) k)) (z := (c : Int)) rfl (by omega)
  by_cases q1 : J_b (ja_L (mem (b + 4) k)) c = true
  · rw [if_neg (fun q => by rw [b1.mp q] at q1; cases q1)]
    exact (a1.mp q1).symm
  · rw [if_pos (b1.mpr (by cases hb : J_b (ja_L (mem (b + 4) k)) c with | false => rfl | true => exact absurd hb q1))]
    have n2 : ¬ v (30 + x).toNat = 2 := fun q => q1 (a1.mpr q)
    by_cases q2 : J_b (ja_L (mem (b + 3) k)) c = true
    · rw [if_neg (fun q => by rw [b2.mp q] at q2; cases q2)]
      have := a2.mp q2
      omega
    · rw [if_pos (b2.mpr (by cases hb : J_b (ja_L (mem (b + 3) k)) c with | false => rfl | true => exact absurd hb q2))]
      have : ¬ 0 < v (30 + x).toNat := fun q => q2 (a2.mpr q)
      omega
theorem F_kn_K {mem : ja_M} {b : Nat} {v : Nat → Int} {k : Int} (hS : N_S v) (hs : ∀ j, j < 9 → mem (b + 1) j = v j) (hk : N_hB v k) (h : S_f mem b v) : K_b v k (F_kn mem (b + 1) (b + 2) k) := by
  intro c hc
  have har := N_ar_in hS
  have hcl := S_b_cells hs
  have hb := N_bk hS hk
  have hkn : ((k.toNat : Nat) : Int) = k := by omega
  have a2 := fun q => (h.1 k.toNat c hc q).2
  rw [hkn] at a2
  unfold F_kn F_bey
  rw [hcl, Int.mul_comm k, show b + 2 + 1 = b + 3 from rfl, J_b_or, Bool.or_eq_true]
  have hbey : J_b (if 1000 - N_ar v * k < 64 then ja_shl (-1) (1000 - N_ar v * k) else 0) c = true ↔ 999 < N_ar v * k + c := by
    by_cases h6 : 1000 - N_ar v * k < 64
    · obtain ⟨e, he⟩ : ∃ e : Nat, 1000 - N_ar v * k = (e : Int) := ⟨(1000 - N_ar v * k).toNat, by omega⟩
      rw [if_pos h6, J_b_shl _ he (by omega), J_b_m1]
      simp only [Bool.and_eq_true, decide_eq_true_eq, Bool.not_eq_true', decide_eq_false_iff_not]
      omega
    · rw [if_neg h6, J_b_zero]
      constructor
      · intro q
        cases q
      · intro q
        omega
  rw [hbey]
  by_cases h9 : 999 < N_ar v * k + c
  · exact ⟨fun _ => Or.inl h9, fun _ => Or.inr h9⟩
  · rw [a2 (by omega)]
    constructor
    · rintro (q | q)
      · exact Or.inr q
      · exact absurd q h9
    · rintro (q | q)
      · exact absurd q h9
      · exact Or.inl q
theorem J_ct_n (P : Nat → Bool) : ∀ n : Nat, J_ct P n ≤ n
  | 0 => Nat.le_refl _
  | n + 1 => by
    have h1 := J_ct_n P n
    have h2 := J_le1 (p := true) (q := P n) (fun _ => rfl)
    rw [J_t1] at h2
    rw [J_ct_s]
    omega
/-- restoring a block, given any packets -/
theorem F_cp_S {mem : ja_M} {b : Nat} {v : Nat → Int} {p a k : Int} (hSO : ja_SO mem (b + 1)) (hR : N_R v) (hs : ∀ j, j < 9 → mem (b + 1) j = v j) (hk : N_hB v k) (h : S_f mem b v) (hp : ∀ r j : Int, 0 ≤ r → r ≤ 1 → 0 ≤ j → j < F_cn mem (b + 1) r → (F_and p (F_pb r j) = 0 ↔ ¬ (¬ a = 0 ∨ v (N_pk v r k j).toNat = 1))) : F_go k v (F_kn mem (b + 1) (b + 2) k) (N_rs a k 40 0 v).2 (F_cp mem (b + 1) p 37 (F_kn mem (b + 1) (b + 2) k)) (N_rs a k 40 0 v).1 := by
  have har := N_ar_in hR.S
  have hz : J_Z (N_ar v).toNat (F_kn mem (b + 1) (b + 2) k) ≤ (N_ar v).toNat := J_ct_n _ _
  obtain ⟨d, d1, d2⟩ := F_cp_N hSO 37 40 v (F_kn mem (b + 1) (b + 2) k) 0 ⟨hR.S, hk, hs, hp, F_kn_K hR.S hs hk h⟩ (by omega) (by omega)
  rw [Int.zero_add] at d1
  rw [d1]
  exact d2
theorem F_new {v : Nat → Int} {w : Nat → Int} {x y : Int64} {k d : Int} (hS : N_S v) (hk : N_hB v k) (h : F_go k v x w y d) : J_bc (y &&& (x ^^^ (-1))) = d := by
  obtain ⟨-, -, g3, g4, g5⟩ := h
  have har := N_ar_in hS
  have h1 : J_ct (J_b (y &&& (x ^^^ (-1)))) 64 = J_ct (J_b (y &&& (x ^^^ (-1)))) (N_ar v).toNat := by
    have := J_ct_tail (P := J_b (y &&& (x ^^^ (-1)))) (n := (N_ar v).toNat) (fun c hc => by
      rw [J_b_and, J_b_not, g5 c (by omega)]
      cases J_b x c with
      | false => rfl
      | true => rw [Bool.not_true, Bool.and_false, Bool.and_false]) (64 - (N_ar v).toNat)
    rw [show (N_ar v).toNat + (64 - (N_ar v).toNat) = 64 by omega] at this
    exact this
  have h2 : J_Z (N_ar v).toNat x = J_Z (N_ar v).toNat y + J_ct (J_b (y &&& (x ^^^ (-1)))) (N_ar v).toNat := J_ct_add _ (fun c hc => by
    rw [J_b_and, J_b_not, decide_eq_true (by omega : c < 64)]
    have := g4 c
    cases hx : J_b x c with
    | false => cases J_b y c <;> rfl
    | true =>
      rw [this hx]
      rfl)
  rw [J_bc_ct, h1]
  omega
theorem R_rs_N {mem : ja_M} {b : Nat} {v : Nat → Int} {k : Int} (hSO : ja_SO mem (b + 1)) (hR : N_R v) (hs : ∀ j, j < 9 → mem (b + 1) j = v j) (hk : N_hB v k) (h : S_f mem b v) : S_f (R_rs mem b k) b (N_rs 0 k 40 0 v).2 ∧ R_rn mem b k = (N_rs 0 k 40 0 v).1 := by
  have har := N_ar_in hR.S
  have hb := N_bk hR.S hk
  have hg := F_cp_S (p := mem (b + 5) k.toNat) (a := 0) hSO hR hs hk h (fun r j r0 r1 j0 j1 => by
    rw [h.2 r k j r0 r1 ⟨hk, j0, by unfold F_cn at j1; rw [hs 3 (by omega), hs 4 (by omega)] at j1; omega⟩]
    constructor
    · rintro q (q2 | q2)
      · exact q2 rfl
      · exact q q2
    · intro q q2
      exact q (Or.inr q2))
  refine ⟨?_, F_new hR.S hk hg⟩
  obtain ⟨⟨g1, g0⟩, g2, g3, g4, g5⟩ := hg
  have e3 : R_rs mem b k (b + 3) = fun j => if j = k.toNat then (F_re mem (b + 1) (b + 2) k).toInt else mem (b + 3) j := by
    funext j
    unfold R_rs
    rw [show b + 2 + 1 = b + 3 from rfl]
    by_cases hj : j = k.toNat
    · rw [if_pos hj, hj, ja_up_s]
    · rw [if_neg hj, ja_up_j hj]
  refine ⟨fun k' c hc hx => ?_, fun r k' i r0 r1 hP => ?_⟩
  · rw [g1.ss.ar] at hc hx ⊢
    have h0 := Int.mul_nonneg (by omega : 0 ≤ N_ar v) (by omega : 0 ≤ (k' : Int))
    obtain ⟨a1, a2⟩ := h.1 k' c hc hx
    have hj := g0 (30 + (N_ar v * k' + c)).toNat
    have hm := g1.2.1 (30 + (N_ar v * k' + c)).toNat
    have hF := hR.F (j := (30 + (N_ar v * k' + c)).toNat) (by omega) (by omega)
    refine ⟨?_, ?_⟩
    · rw [R_rs_o (by omega), a1]
      omega
    · rw [e3]
      by_cases hkk : k' = k.toNat
      · have hkn : (k' : Int) = k := by omega
        dsimp only
        rw [if_pos hkk, ja_L_toInt, hkn, show F_re mem (b + 1) (b + 2) k = F_cp mem (b + 1) (mem (b + 5) k.toNat) 37 (F_kn mem (b + 1) (b + 2) k) from rfl, g2 c (by rw [g1.ss.ar]; exact hc), g1.ss.ar]
        rw [hkn] at hx
        unfold N_kn
        constructor
        · rintro (q | q)
          · omega
          · exact q
        · exact Or.inr
      · dsimp only
        rw [if_neg hkk, a2]
        rcases hj with hj | ⟨hj, c2, c3, c4⟩
        · rw [hj]
        · have := blk_inj (a := N_ar v) (k := (k' : Int)) (k' := k) (c := (c : Int)) (c' := (c2 : Int)) ⟨by omega, hc⟩ ⟨by omega, c3⟩ (by omega)
          omega
  · have hP2 := g1.ss.hP.mp hP
    have hp := N_pk_in (r := r) hR.S hP2.1 (N_hP_6 hR.S hP2)
    rw [R_rs_o (by omega), g1.ss.pk, g1.1 _ (by omega)]
    exact h.2 r k' i r0 r1 hP2
/-- a frame arrives, one that isn't known -/
theorem F_ad_N {mem : ja_M} {b : Nat} {v : Nat → Int} {x : Int} (hS : N_S v) (hs : ∀ j, j < 9 → mem (b + 1) j = v j) (hx : 0 ≤ x ∧ x ≤ 999) (h : S_f mem b v) : S_f (F_ad mem (b + 1) (b + 2) x) b (ja_rs v (30 + x).toNat 2) := by
  have har := N_ar_in hS
  have hcl := S_b_cells hs
  have ss : N_ss v (ja_rs v (30 + x).toNat 2) := fun j hj => ja_rs_n (by omega)
  obtain ⟨k, c, e1, e2, e3, e4⟩ := blk_of (by omega : 0 < N_ar v) hx.1
  have r4 : F_ad mem (b + 1) (b + 2) x (b + 4) = fun j => if j = k then (ja_L (mem (b + 4) k) ||| ja_shl 1 (c : Int)).toInt else mem (b + 4) j := by
    funext j
    unfold F_ad
    rw [hcl, e1, e2, show b + 2 + 2 = b + 4 from rfl, show ((k : Nat) : Int).toNat = k from rfl, ja_up_a (by omega)]
    by_cases hj : j = k
    · rw [if_pos hj, hj, ja_up_s]
    · rw [if_neg hj, ja_up_j hj]
  have r3 : F_ad mem (b + 1) (b + 2) x (b + 3) = fun j => if j = k then (ja_L (mem (b + 3) k) ||| ja_shl 1 (c : Int)).toInt else mem (b + 3) j := by
    funext j
    unfold F_ad
    rw [hcl, e1, e2, show b + 2 + 1 = b + 3 from rfl, show ((k : Nat) : Int).toNat = k from rfl]
    by_cases hj : j = k
    · rw [if_pos hj, hj, ja_up_s]
    · rw [if_neg hj, ja_up_j hj, ja_up_a (by omega)]
  have hbit : ∀ (z : Int) (c' : Nat), (c' : Int) < N_ar v → (J_b (ja_L (ja_L z ||| ja_shl 1 (c : Int)).toInt) c' = true ↔ J_b (ja_L z) c' = true ∨ c' = c) := fun z c' hc' => by
    rw [ja_L_toInt, J_b_or, Bool.or_eq_true, J_b_shl _ rfl (by omega), J_b_one]
    simp only [Bool.and_eq_true, decide_eq_true_eq, Bool.not_eq_true', decide_eq_false_iff_not]
    exact or_congr Iff.rfl ⟨fun q => by omega, fun q => by omega⟩
  refine ⟨fun k' c' hc hx2 => ?_, fun r k' i r0 r1 hP => ?_⟩
  · rw [ss.ar] at hc hx2 ⊢
    have h0 := Int.mul_nonneg (by omega : 0 ≤ N_ar v) (by omega : 0 ≤ (k' : Int))
    obtain ⟨a1, a2⟩ := h.1 k' c' hc hx2
    rw [r4, r3]
    dsimp only
    by_cases hkk : k' = k
    · subst hkk
      rw [if_pos rfl, if_pos rfl, hbit _ _ hc, hbit _ _ hc]
      by_cases hcc : c' = c
      · subst hcc
        rw [← e4, ja_rs_s]
        exact ⟨⟨fun _ => rfl, fun _ => Or.inr rfl⟩, ⟨fun _ => by decide, fun _ => Or.inr rfl⟩⟩
      · rw [ja_rs_n (by omega), a1, a2]
        exact ⟨⟨fun q => q.elim id (fun q => absurd q hcc), Or.inl⟩, ⟨fun q => q.elim id (fun q => absurd q hcc), Or.inl⟩⟩
    · rw [if_neg hkk, if_neg hkk, ja_rs_n (fun q => hkk (by
        have := blk_inj (a := N_ar v) (k := (k' : Int)) (k' := (k : Int)) (c := (c' : Int)) (c' := (c : Int)) ⟨by omega, hc⟩ ⟨by omega, e3⟩ (by omega)
        omega))]
      exact ⟨a1, a2⟩
  · have hP2 := ss.hP.mp hP
    have hp := N_pk_in (r := r) hS hP2.1 (N_hP_6 hS hP2)
    rw [F_ad_o ⟨by omega, by omega⟩, ss.pk, ja_rs_n (by omega)]
    exact h.2 r k' i r0 r1 hP2
theorem N_pk_inj {v : Nat → Int} {r k i r' k' i' : Int} (hS : N_S v) (hP : N_hP v r k i) (hP' : N_hP v r' k' i') (hr : 0 ≤ r ∧ r ≤ 1) (hr' : 0 ≤ r' ∧ r' ≤ 1) (h : N_pk v r k i = N_pk v r' k' i') : r = r' ∧ k = k' ∧ i = i' := by
  have hb := N_bk hS hP.1
  have hb' := N_bk hS hP'.1
  obtain ⟨-, -, -, s3, s4, -⟩ := hS
  obtain ⟨-, i0, i1⟩ := hP
  obtain ⟨-, i0', i1'⟩ := hP'
  unfold N_pk at h
  by_cases hq : r = 0
  · rw [if_pos hq] at h i1
    by_cases hq' : r' = 0
    · rw [if_pos hq'] at h i1'
      have := blk_inj (a := v 3) (k := k) (k' := k') (c := i) (c' := i') ⟨i0, by omega⟩ ⟨i0', by omega⟩ (by omega)
      omega
    · rw [if_neg hq'] at h i1'
      omega
  · rw [if_neg hq] at h i1
    by_cases hq' : r' = 0
    · rw [if_pos hq'] at h i1'
      omega
    · rw [if_neg hq'] at h i1'
      have := blk_inj (a := v 4) (k := k) (k' := k') (c := i) (c' := i') ⟨i0, by omega⟩ ⟨i0', by omega⟩ (by omega)
      omega
/-- a packet arrives -/
theorem F_ap_N {mem : ja_M} {b : Nat} {v : Nat → Int} {r k i : Int} (hS : N_S v) (hr : 0 ≤ r ∧ r ≤ 1) (hP : N_hP v r k i) (h : S_f mem b v) : S_f (F_ap mem (b + 2) r k i) b (ja_rs v (N_pk v r k i).toNat 1) := by
  have har := N_ar_in hS
  have hpk := N_pk_in (r := r) hS hP.1 (N_hP_6 hS hP)
  have hb := N_bk hS hP.1
  have ss : N_ss v (ja_rs v (N_pk v r k i).toNat 1) := fun j hj => ja_rs_n (by omega)
  have r5 : F_ap mem (b + 2) r k i (b + 5) = fun j => if j = k.toNat then F_or (mem (b + 5) k.toNat) (F_pb r i) else mem (b + 5) j := by
    funext j
    unfold F_ap
    rw [show b + 2 + 3 = b + 5 from rfl]
    by_cases hj : j = k.toNat
    · rw [if_pos hj, hj, ja_up_s]
    · rw [if_neg hj, ja_up_j hj]
  refine ⟨fun k' c' hc hx2 => ?_, fun r' k' i' r0 r1 hP' => ?_⟩
  · rw [ss.ar] at hc hx2 ⊢
    have h0 := Int.mul_nonneg (by omega : 0 ≤ N_ar v) (by omega : 0 ≤ (k' : Int))
    rw [F_ap_o (by omega), F_ap_o (by omega), ja_rs_n (by omega)]
    exact h.1 k' c' hc hx2
  · have hP2 := ss.hP.mp hP'
    have hpk2 := N_pk_in (r := r') hS hP2.1 (N_hP_6 hS hP2)
    have hb2 := N_bk hS hP2.1
    have a1 := h.2 r' k' i' r0 r1 hP2
    obtain ⟨-, -, -, s3, s4, -⟩ := id hS
    have g := F_pe_in (r := r) (i := i) s3 s4 ⟨hP.2.1, by have := hP.2.2; omega⟩
    have g' := F_pe_in (r := r') (i := i') s3 s4 ⟨hP2.2.1, by have := hP2.2.2; omega⟩
    obtain ⟨e, he⟩ : ∃ e : Nat, F_pe r i = (e : Int) := ⟨(F_pe r i).toNat, by omega⟩
    obtain ⟨e', he'⟩ : ∃ e : Nat, F_pe r' i' = (e : Int) := ⟨(F_pe r' i').toNat, by omega⟩
    rw [r5, ss.pk]
    dsimp only
    by_cases hsame : N_pk v r' k' i' = N_pk v r k i
    · obtain ⟨q1, q2, q3⟩ := N_pk_inj hS hP2 hP ⟨r0, r1⟩ hr hsame
      subst q1; subst q2; subst q3
      rw [if_pos rfl, ja_rs_s, F_and_b he (by omega), F_or_b he (by omega), decide_eq_true rfl, Bool.or_true]
      exact ⟨fun q => (by cases q), fun q => absurd rfl q⟩
    · rw [ja_rs_n (by omega)]
      by_cases hkk : k'.toNat = k.toNat
      · rw [if_pos hkk, F_and_b he' (by omega), F_or_b he (by omega)]
        have hne : ¬ e' = e := fun q => hsame (by
          have hkk2 : k' = k := by omega
          subst hkk2
          have hpe : F_pe r' i' = F_pe r i := by omega
          unfold F_pe at hpe
          unfold N_pk
          by_cases z : r = 0
          · by_cases z' : r' = 0
            · rw [if_pos z, if_pos z'] at hpe ⊢
              omega
            · have := g.2.2.1 z
              have := g'.2.2.2 z'
              omega
          · by_cases z' : r' = 0
            · have := g.2.2.2 z
              have := g'.2.2.1 z'
              omega
            · rw [if_neg z, if_neg z'] at hpe ⊢
              omega)
        rw [decide_eq_false hne, Bool.or_false, ← hkk, ← F_and_b he' (by omega)]
        exact a1
      · rw [if_neg hkk]
        exact a1
end
section
-- THE WINDOW OF BOTH
theorem T_ins_o {v : Int} : ∀ (h : Nat) (f : Nat → Int) (j : Nat), h < j → T_ins f v h j = f j
  | 0, f, j, hj => by
    simp only [T_ins]
    exact ja_rs_n (by omega)
  | h + 1, f, j, hj => by
    simp only [T_ins]
    split
    · rw [T_ins_o h _ j (by omega), ja_rs_n (by omega)]
    · exact ja_rs_n (by omega)
theorem T_inb {v : Int} {P : Int → Prop} (hv : P v) : ∀ (h : Nat) (f : Nat → Int), (∀ j, j < h → P (f j)) → ∀ j, j ≤ h → P (T_ins f v h j)
  | 0, f, hf, j, hj => by
    simp only [T_ins]
    rw [show j = 0 by omega, ja_rs_s]
    exact hv
  | h + 1, f, hf, j, hj => by
    simp only [T_ins]
    split
    · by_cases hjh : j = h + 1
      · rw [T_ins_o h _ j (by omega), hjh, ja_rs_s]
        exact hf h (by omega)
      · exact T_inb hv h _ (fun q hq => by rw [ja_rs_n (by omega)]; exact hf q (by omega)) j (by omega)
    · by_cases hjh : j = h + 1
      · rw [hjh, ja_rs_s]
        exact hv
      · rw [ja_rs_n hjh]
        exact hf j (by omega)
/-- how many of the first k are at most z -/
def T_cl (f : Nat → Int) (z : Int) (k : Nat) : Nat := J_ct (fun i => decide (f i ≤ z)) k
/-- ascending -/
def T_od (f : Nat → Int) (k : Nat) : Prop := ∀ i j, i ≤ j → j < k → f i ≤ f j
theorem T_cl_s (f : Nat → Int) (z : Int) (k : Nat) : T_cl f z (k + 1) = T_cl f z k + if f k ≤ z then 1 else 0 := by
  unfold T_cl
  rw [J_ct_s]
  by_cases h : f k ≤ z
  · rw [if_pos h, decide_eq_true h]
    rfl
  · rw [if_neg h, decide_eq_false h]
    rfl
theorem T_cl_e {f g : Nat → Int} (z : Int) : ∀ k : Nat, (∀ i, i < k → f i = g i) → T_cl f z k = T_cl g z k
  | 0, _ => rfl
  | k + 1, h => by
    rw [T_cl_s, T_cl_s, T_cl_e z k (fun i hi => h i (by omega)), h k (by omega)]
theorem T_ins_cl {v : Int} (z : Int) : ∀ (h : Nat) (f : Nat → Int), T_cl (T_ins f v h) z (h + 1) = T_cl f z h + if v ≤ z then 1 else 0
  | 0, f => by
    rw [T_cl_s, show T_ins f v 0 0 = v from ja_rs_s _ _ _]
    rfl
  | h + 1, f => by
    by_cases hv : v < f h
    · have e : T_ins f v (h + 1) = T_ins (ja_rs f (h + 1) (f h)) v h := if_pos hv
      rw [T_cl_s, e, T_ins_cl z h, T_ins_o h _ (h + 1) (by omega), ja_rs_s, T_cl_s f z h, T_cl_e (g := f) z h (fun i hi => ja_rs_n (by omega))]
      omega
    · have e : T_ins f v (h + 1) = ja_rs f (h + 1) v := if_neg hv
      rw [T_cl_s, e, ja_rs_s, T_cl_e (g := f) z (h + 1) (fun i hi => ja_rs_n (by omega))]
theorem T_srt_cl (f g : Nat → Int) (z : Int) : ∀ k : Nat, T_cl (T_srt f g k) z k = T_cl f z k
  | 0 => rfl
  | k + 1 => by
    rw [T_cl_s f z k, ← T_srt_cl f g z k]
    exact T_ins_cl z k _
theorem T_ins_od {v : Int} : ∀ (h : Nat) (f : Nat → Int), T_od f h → T_od (T_ins f v h) (h + 1)
  | 0, f, _ => fun i j hij hj => by
    rw [show i = 0 by omega, show j = 0 by omega]
    exact Int.le_refl _
  | h + 1, f, hf => fun i j hij hj => by
    simp only [T_ins]
    split
    · rename_i hv
      have hf' : T_od (ja_rs f (h + 1) (f h)) h := fun a c hac hc => by
        rw [ja_rs_n (by omega), ja_rs_n (by omega)]
        exact hf a c hac (by omega)
      by_cases hjh : j = h + 1
      · by_cases hih : i = h + 1
        · rw [hjh, hih]
          exact Int.le_refl _
        · rw [hjh, T_ins_o h _ (h + 1) (by omega), ja_rs_s]
          exact T_inb (P := fun q => q ≤ f h) (by omega) h _ (fun q hq => by rw [ja_rs_n (by omega)]; exact hf q h (by omega) (by omega)) i (by omega)
      · exact T_ins_od h _ hf' i j hij (by omega)
    · rename_i hv
      by_cases hjh : j = h + 1
      · by_cases hih : i = h + 1
        · rw [hjh, hih]
          exact Int.le_refl _
        · rw [hjh, ja_rs_s, ja_rs_n hih]
          have := hf i h (by omega) (by omega)
          omega
      · rw [ja_rs_n (by omega), ja_rs_n (by omega)]
        exact hf i j hij (by omega)
theorem T_srt_od (f g : Nat → Int) : ∀ k : Nat, T_od (T_srt f g k) k
  | 0 => fun i j _ hj => by omega
  | k + 1 => T_ins_od k _ (T_srt_od f g k)
theorem T_cl_le (f : Nat → Int) (z : Int) (k : Nat) : T_cl f z k ≤ k := J_ct_n _ _
theorem T_cl_all {f : Nat → Int} {z : Int} : ∀ k : Nat, (∀ i, i < k → f i ≤ z) → T_cl f z k = k
  | 0, _ => rfl
  | k + 1, h => by
    rw [T_cl_s, T_cl_all k (fun i hi => h i (by omega)), if_pos (h k (by omega))]
/-- ascending, with the same numbers: the same -/
theorem T_od_eq {a c : Nat → Int} : ∀ k : Nat, T_od a k → T_od c k → (∀ z, T_cl a z k = T_cl c z k) → ∀ j, j < k → a j = c j
  | 0, _, _, _, j, hj => by omega
  | k + 1, ha, hc, h, j, hj => by
    have hl : a k = c k := by
      rcases Int.lt_trichotomy (a k) (c k) with q | q | q
      · have h1 := h (a k)
        rw [T_cl_all (f := a) (k + 1) (fun i hi => ha i k (by omega) (by omega)), T_cl_s, if_neg (by omega)] at h1
        have := T_cl_le c (a k) k
        omega
      · exact q
      · have h1 := h (c k)
        rw [T_cl_all (f := c) (k + 1) (fun i hi => hc i k (by omega) (by omega)), T_cl_s, if_neg (by omega)] at h1
        have := T_cl_le a (c k) k
        omega
    by_cases hjk : j = k
    · rw [hjk]
      exact hl
    · refine T_od_eq k (fun i j a1 a2 => ha i j a1 (by omega)) (fun i j a1 a2 => hc i j a1 (by omega)) (fun z => ?_) j (by omega)
      have h1 := h z
      rw [T_cl_s, T_cl_s, hl] at h1
      omega
theorem T_rot1 (f : Nat → Int) (z : Int) : T_cl (fun i => f ((i + 1) % 16)) z 16 = T_cl f z 16 := by
  unfold T_cl
  have e := J_ct_l (fun i => decide (f i ≤ z)) 15
  rw [e]
  have e2 : J_ct (fun i => decide (f ((i + 1) % 16) ≤ z)) 16 = J_ct (fun i => decide (f ((i + 1) % 16) ≤ z)) 15 + (decide (f 0 ≤ z)).toNat := rfl
  rw [e2, J_ct_e (P := fun i => decide (f ((i + 1) % 16) ≤ z)) (Q := fun i => decide (f (i + 1) ≤ z)) 15 (fun c hc => by rw [Nat.mod_eq_of_lt (by omega)])]
  omega
theorem T_rot (f : Nat → Int) (z : Int) : ∀ P : Nat, T_cl (fun i => f ((P + i) % 16)) z 16 = T_cl f z 16
  | 0 => T_cl_e z 16 (fun i hi => by rw [Nat.zero_add, Nat.mod_eq_of_lt hi])
  | P + 1 => by
    rw [← T_rot f z P, ← T_rot1 (fun i => f ((P + i) % 16)) z]
    exact T_cl_e z 16 (fun i hi => by
      show f ((P + 1 + i) % 16) = f ((P + (i + 1) % 16) % 16)
      rw [show (P + (i + 1) % 16) % 16 = (P + 1 + i) % 16 by omega])
theorem T_srt_f {f f' g : Nat → Int} : ∀ k : Nat, (∀ i, i < k → f i = f' i) → T_srt f g k = T_srt f' g k
  | 0, _ => rfl
  | k + 1, h => by
    simp only [T_srt]
    rw [T_srt_f k (fun i hi => h i (by omega)), h k (by omega)]
/-- the window of both -/
def S_w : S_T := fun mem b v => mem (b + 6) 2 = v 24 ∧ (0 ≤ v 24 ∧ v 24 ≤ 16) ∧ (0 ≤ mem (b + 6) 3 ∧ mem (b + 6) 3 < 16) ∧ (v 24 < 16 → mem (b + 6) 3 = v 24) ∧ (∀ i : Nat, (i : Int) < v 24 → mem (b + 7) ((mem (b + 6) 3 + 16 - v 24 + i) % 16).toNat = v (2372 + i)) ∧ ∀ j : Nat, (j : Int) < v 24 → mem (b + 8) j = N_so v (v 24).toNat j
theorem N_so_f {v w : Nat → Int} (k : Nat) (h : ∀ i, i < k → w (2372 + i) = v (2372 + i)) : N_so w k = N_so v k := T_srt_f k (fun i hi => h i hi)
theorem S_w_cg {mem mem' : ja_M} {b : Nat} {v v' : Nat → Int} (hm : ∀ q, b + 6 ≤ q → q ≤ b + 8 → mem' q = mem q) (hv : ∀ j, (j = 24 ∨ (2372 ≤ j ∧ j < 2388)) → v' j = v j) (h : S_w mem b v) : S_w mem' b v' := by
  obtain ⟨h1, h2, h3, h4, h5, h6⟩ := h
  have e := hv 24 (Or.inl rfl)
  unfold S_w
  rw [e, hm (b + 6) (by omega) (by omega), hm (b + 7) (by omega) (by omega), hm (b + 8) (by omega) (by omega), N_so_f (v := v) (v 24).toNat (fun i hi => hv _ (by omega))]
  exact ⟨h1, h2, h3, h4, fun i hi => by rw [hv _ (by omega)]; exact h5 i hi, h6⟩
/-- a transit comes in -/
theorem T_add_N {mem : ja_M} {b : Nat} {v : Nat → Int} {t : Int} (h : S_w mem b v) : S_w (T_add mem (b + 6) t) b (N_se v t) := by
  obtain ⟨h1, h2, h3, h4, h5, h6⟩ := h
  have r62 : T_add mem (b + 6) t (b + 6) 2 = T_ct mem (b + 6) := by
    unfold T_add
    rw [ja_rw_n (by omega), ja_up_s]
  have r63 : T_add mem (b + 6) t (b + 6) 3 = (mem (b + 6) 3 + 1) % 16 := by
    unfold T_add
    rw [ja_rw_n (by omega), ja_up_j (by omega), ja_up_s]
  have r7 : ∀ j, T_add mem (b + 6) t (b + 7) j = ja_rs (mem (b + 7)) (mem (b + 6) 3).toNat t j := fun j => by
    unfold T_add
    rw [ja_rw_n (by omega), ja_up_a (by omega), ja_up_a (by omega)]
    unfold ja_up ja_rs
    by_cases hj : j = (mem (b + 6) 3).toNat
    · rw [if_pos ⟨rfl, hj⟩, if_pos hj]
    · rw [if_neg (fun q => hj q.2), if_neg hj]
  have r8 : T_add mem (b + 6) t (b + 8) = T_srt (ja_rs (mem (b + 7)) (mem (b + 6) 3).toNat t) (mem (b + 8)) (T_ct mem (b + 6)).toNat := by
    unfold T_add
    exact ja_rw_s _ _ _
  have w24 : N_se v t 24 = N_s0 v 24 + 1 := by
    unfold N_se
    rw [ja_rs_s]
  generalize hP : mem (b + 6) 3 = P at *
  by_cases hc : v 24 = 16
  · have s24 : N_s0 v 24 = 15 := by
      unfold N_s0
      rw [if_pos hc, ja_rs_s]
    have hct : T_ct mem (b + 6) = 16 := by
      unfold T_ct
      rw [h1, hc]
      rfl
    have wi : ∀ i : Nat, i < 16 → N_se v t (2372 + i) = if i = 15 then t else v (2372 + i + 1) := fun i hi => by
      unfold N_se
      rw [s24, ja_rs_n (by omega)]
      by_cases h15 : i = 15
      · subst h15
        rw [if_pos rfl]
        exact ja_rs_s _ _ _
      · rw [if_neg h15, ja_rs_n (by omega)]
        unfold N_s0
        rw [if_pos hc, ja_rs_n (by omega)]
        have : ∀ n : Nat, n ≤ 15 → ∀ i, i < n → N_sh v n (2372 + i) = v (2372 + i + 1) := fun n => by
          induction n with
          | zero =>
            intro _ i hi
            omega
          | succ n ih =>
            intro hn i hi
            simp only [N_sh]
            by_cases hin : i = n
            · subst hin
              rw [ja_rs_s]
            · rw [ja_rs_n (by omega)]
              exact ih (by omega) i (by omega)
        exact this 15 (by omega) i (by omega)
    have hring : ∀ i : Nat, i < 16 → T_add mem (b + 6) t (b + 7) (((P + 1) % 16 + i) % 16).toNat = N_se v t (2372 + i) := fun i hi => by
      rw [r7, wi i hi]
      by_cases h15 : i = 15
      · rw [if_pos h15, show (((P + 1) % 16 + i) % 16).toNat = P.toNat by omega, ja_rs_s]
      · rw [if_neg h15, ja_rs_n (by omega)]
        have h5i := h5 (i + 1) (by omega)
        rw [hc] at h5i
        rw [show (((P + 1) % 16 + i) % 16).toNat = ((P + 16 - 16 + ((i + 1 : Nat) : Int)) % 16).toNat by omega, h5i]
        rfl
    unfold S_w
    rw [r62, r63, hct, w24, s24, show ((15 : Int) + 1) = 16 from rfl]
    refine ⟨rfl, by omega, by omega, fun q => by omega, fun i hi => ?_, fun j hj => ?_⟩
    · rw [show ((P + 1) % 16 + 16 - 16 + (i : Int)) % 16 = ((P + 1) % 16 + i) % 16 by omega]
      exact hring i (by omega)
    · rw [r8, hct, show ((16 : Int).toNat) = 16 from rfl]
      refine T_od_eq 16 (T_srt_od _ _ 16) (T_srt_od _ _ 16) (fun z => ?_) j (by omega)
      rw [T_srt_cl]
      refine Eq.trans ?_ (T_srt_cl (fun i => N_se v t (2372 + (i : Int)).toNat) (fun _ => 0) z 16).symm
      rw [← T_rot _ z ((P + 1) % 16).toNat]
      refine T_cl_e z 16 (fun i hi => ?_)
      have hr := hring i hi
      rw [r7] at hr
      rw [show (((P + 1) % 16).toNat + i) % 16 = (((P + 1) % 16 + i) % 16).toNat by omega, hr]
      rfl
  · have hlt : v 24 < 16 := by omega
    have hPc := h4 hlt
    have s0 : N_s0 v = v := by
      unfold N_s0
      rw [if_neg hc]
    have hct : T_ct mem (b + 6) = v 24 + 1 := by
      unfold T_ct
      rw [h1]
      split <;> omega
    have wi : ∀ i : Nat, (i : Int) < v 24 + 1 → N_se v t (2372 + i) = ja_rs (mem (b + 7)) P.toNat t i := fun i hi => by
      unfold N_se
      rw [s0, ja_rs_n (by omega)]
      by_cases hi2 : (i : Int) = v 24
      · rw [show (2372 + v 24).toNat = 2372 + i by omega, ja_rs_s, show P.toNat = i by omega, ja_rs_s]
      · have h5i := h5 i (by omega)
        rw [hPc, show ((v 24 + 16 - v 24 + (i : Int)) % 16).toNat = i by omega] at h5i
        rw [ja_rs_n (by omega), ja_rs_n (by omega), h5i]
    unfold S_w
    rw [r62, r63, hct, w24, s0]
    refine ⟨rfl, by omega, by omega, fun q => by omega, fun i hi => ?_, fun j hj => ?_⟩
    · rw [show (((P + 1) % 16 + 16 - (v 24 + 1) + (i : Int)) % 16).toNat = i by omega, r7]
      exact (wi i hi).symm
    · rw [r8, hct]
      have e : N_so (N_se v t) (v 24 + 1).toNat = T_srt (ja_rs (mem (b + 7)) P.toNat t) (fun _ => 0) (v 24 + 1).toNat := T_srt_f _ (fun i hi => wi i (by omega))
      rw [e]
      exact T_srt_c _ j (by omega)
theorem T_spr_N {mem : ja_M} {b : Nat} {v : Nat → Int} (hS : N_S v) (hs : ∀ j, j < 9 → mem (b + 1) j = v j) (h : S_w mem b v) : R_tg mem b = N_tg v := by
  obtain ⟨h1, h2, h3, h4, h5, h6⟩ := h
  obtain ⟨-, -, -, -, -, -, q6, -⟩ := hS
  unfold R_tg T_spr N_tg
  rw [h1, hs 6 (by omega), hs 7 (by omega)]
  by_cases h0 : v 24 = 0
  · rw [if_pos h0, if_pos h0]
    omega
  · rw [if_neg h0, if_neg h0, show b + 6 + 2 = b + 8 from rfl]
    have m1 := Int.mul_le_mul_of_nonneg_right q6.2 (by omega : 0 ≤ v 24)
    have m2 := Int.mul_le_mul_of_nonneg_right q6.1 (by omega : 0 ≤ v 24)
    rw [h6 _ (by omega), h6 0 (by omega)]
theorem R_lv_N {mem : ja_M} {b : Nat} {v : Nat → Int} (hR : N_R v) (hs : ∀ j, j < 9 → mem (b + 1) j = v j) (h : S_f mem b v) {x : Int} (hx : 0 ≤ x ∧ x ≤ 1000) : R_lv mem b x = N_lv v x := by
  have key : ∀ (k : Nat) (x : Int), 0 ≤ x → x + k ≤ 1000 → F_fr mem (b + 1) (b + 2) x k = N_fo v x k := fun k => by
    induction k with
    | zero =>
      intro x _ _
      rfl
    | succ k ih =>
      intro x h0 h1
      have hst := F_st_v hR hs h (x := x) ⟨h0, by omega⟩
      have hF := hR.F (j := (30 + x).toNat) (by omega) (by omega)
      simp only [F_fr, N_fo]
      rw [hst]
      by_cases hk : N_kn v x
      · have : 0 < v (30 + x).toNat := hk.elim (fun q => by omega) id
        rw [if_pos hk, if_neg (by omega)]
        exact ih (x + 1) (by omega) (by omega)
      · rw [if_neg hk, if_pos (by
          have : ¬ 0 < v (30 + x).toNat := fun q => hk (Or.inr q)
          omega)]
  have hin := @N_fo_in v (1000 - x).toNat x
  unfold R_lv N_lv
  rw [key _ x hx.1 (by omega), hs 0 (by omega)]
  congr 1
  split <;> omega
end
section
-- THE PLAYER OF BOTH, BUT FOR THE SAMPLES
def S_p : S_T := fun mem b v => (mem (b + 9) 1 = v 22 ∧ mem (b + 9) 2 = v 23 ∧ mem (b + 9) 4 = v 12 ∧ mem (b + 9) 6 = v 11) ∧ (∀ i : Nat, i < 32 → (i : Int) < v 11 → mem (b + 12) ((v 11 - 1 - i) % 32).toNat = v (2310 + i)) ∧ (mem (b + 14) 0 = v 19 ∧ mem (b + 14) 1 = v 20 ∧ mem (b + 14) 2 = v 21 ∧ mem (b + 14) 3 = v 15 ∧ mem (b + 14) 4 = v 16 ∧ mem (b + 14) 5 = v 17 ∧ mem (b + 14) 6 = v 18 ∧ mem (b + 14) 7 = v 13 ∧ mem (b + 14) 8 = v 14)
theorem S_p_cg {mem mem' : ja_M} {b : Nat} {v v' : Nat → Int} (h9 : ∀ j, (j = 1 ∨ j = 2 ∨ j = 4 ∨ j = 6) → mem' (b + 9) j = mem (b + 9) j) (h12 : mem' (b + 12) = mem (b + 12)) (h14 : mem' (b + 14) = mem (b + 14)) (hv : ∀ j, ((11 ≤ j ∧ j < 24) ∨ (2310 ≤ j ∧ j < 2342)) → v' j = v j) (h : S_p mem b v) : S_p mem' b v' := by
  obtain ⟨h1, h2, h3⟩ := h
  unfold S_p
  rw [h9 1 (by omega), h9 2 (by omega), h9 4 (by omega), h9 6 (by omega), h12, h14, hv 22 (by omega), hv 23 (by omega), hv 12 (by omega), hv 11 (by omega), hv 19 (by omega), hv 20 (by omega), hv 21 (by omega), hv 15 (by omega), hv 16 (by omega), hv 17 (by omega), hv 18 (by omega), hv 13 (by omega), hv 14 (by omega)]
  exact ⟨h1, fun i i1 i2 => by rw [hv _ (by omega)]; exact h2 i i1 i2, h3⟩
-- the reference
theorem N_gs_22 {w h : Nat → Int} : ∀ k : Nat, N_gs w h k 22 = w 22 + k
  | 0 => by
    simp only [N_gs]
    omega
  | k + 1 => by
    rw [N_gs_s]
    unfold N_gi
    rw [ja_rs_s, N_gs_22 k]
    omega
theorem N_gs_lo {w h : Nat → Int} (h0 : 0 ≤ w 22) {j : Nat} (hj : j < 2342) (h22 : j ≠ 22) : ∀ k : Nat, N_gs w h k j = w j
  | 0 => rfl
  | k + 1 => by
    have e := @N_gs_22 w h k
    rw [N_gs_s]
    unfold N_gi
    rw [ja_rs_n h22, ja_rs_n (by omega)]
    exact N_gs_lo h0 hj h22 k
theorem N_sk_v {w : Nat → Int} : ∀ (j : Nat), j ≤ 31 → ∀ e, e < j → N_sk w j (2341 - e) = w (2340 - e)
  | 0, _, e, he => by omega
  | j + 1, hj, e, he => by
    simp only [N_sk]
    by_cases hej : e = j
    · subst hej
      rw [ja_rs_s]
    · rw [ja_rs_n (by omega)]
      exact N_sk_v j (by omega) e (by omega)
theorem N_td_e (u : Nat → Int) {kd : Int} (hk : 1 ≤ kd ∧ kd ≤ 3) (j : Nat) : N_td u kd j = u j + if (j : Int) = 18 + kd then 1 else 0 := by
  unfold N_td
  by_cases h : (j : Int) = 18 + kd
  · rw [if_pos h, show (18 + kd).toNat = j by omega, ja_rs_s]
  · rw [if_neg h, ja_rs_n (by omega)]
    omega
theorem N_tk_e (v : Nat → Int) {j : Nat} (h11 : j ≠ 11) (hj : j < 2310) : N_tk v j = N_tu v j + if (j : Int) = 18 + N_kd v (v 11) then 1 else 0 := by
  have hk := @N_kd_in v (v 11)
  unfold N_tk N_te
  rw [ja_rs_n h11, ja_rs_n (by omega), N_sk_n 31 (by omega) (by omega), N_td_e _ hk]
theorem N_tk_kd {v : Nat → Int} {t : Int} (hO : N_O v t) (hn : v 11 ≤ 999) (i : Nat) (hi : i < 32) : N_tk v (2310 + i) = if i = 0 then N_kd v (v 11) else v (2310 + i - 1) := by
  have hk := @N_kd_in v (v 11)
  have hu := (N_tu_R hO hn).2.1
  unfold N_tk N_te
  rw [ja_rs_n (by omega)]
  by_cases h0 : i = 0
  · subst h0
    rw [if_pos rfl]
    exact ja_rs_s _ _ _
  · have e := N_sk_v (w := N_td (N_tu v) (N_kd v (v 11))) 31 (by omega) (31 - i) (by omega)
    rw [show 2341 - (31 - i) = 2310 + i by omega, show 2340 - (31 - i) = 2310 + i - 1 by omega] at e
    rw [if_neg h0, ja_rs_n (by omega), e, N_td_e _ hk, if_neg (by omega), hu _ (by omega)]
    omega
/-- taken as concealed -/
theorem N_tu_3 {v : Nat → Int} (h : N_kd v (v 11) = 3) : N_tu v 13 = v 13 + 1 ∧ N_tu v 14 = (if v 14 < v 13 + 1 then v 13 + 1 else v 14) ∧ N_tu v 22 = ((v 0).toNat : Int) ∧ ∀ j, 15 ≤ j → j < 22 → N_tu v j = v j := by
  have e : N_tu v = N_co (N_tc (N_t0 v)) := if_pos h
  have c22 : N_tc (N_t0 v) 22 = 0 := by
    unfold N_tc N_t0
    rw [ja_rs_n (by omega), ja_rs_n (by omega), ja_rs_n (by omega), ja_rs_s]
  have c0 : N_tc (N_t0 v) 0 = v 0 := by
    unfold N_tc N_t0
    rw [ja_rs_n (by omega), ja_rs_n (by omega), ja_rs_n (by omega), ja_rs_n (by omega)]
  have e13 : N_t0 v 13 = v 13 := by
    unfold N_t0
    rw [ja_rs_n (by omega), ja_rs_n (by omega)]
  have e14 : N_t0 v 14 = v 14 := by
    unfold N_t0
    rw [ja_rs_n (by omega), ja_rs_n (by omega)]
  rw [e]
  unfold N_co
  rw [N_gs_lo (by omega) (by omega) (by omega), N_gs_lo (by omega) (by omega) (by omega), N_gs_22, c22, c0]
  refine ⟨?_, ?_, by omega, fun j j1 j2 => ?_⟩
  · unfold N_tc
    rw [ja_rs_n (by omega), ja_rs_s, e13]
  · unfold N_tc
    rw [ja_rs_s, e13, e14]
  · rw [N_gs_lo (by omega) (by omega) (by omega)]
    unfold N_tc N_t0
    rw [ja_rs_n (by omega), ja_rs_n (by omega), ja_rs_n (by omega), ja_rs_n (by omega)]
/-- how long a frame is played -/
def N_ln (u : Nat → Int) (x : Int) : Int := if N_sht u x then u 0 - N_lf u x else if N_lng u x then u 0 + N_lf u x else u 0
theorem N_fi_v {u : Nat → Int} {x : Int} (hS : N_S u) (h22 : u 22 = 0) : N_fi u x 22 = N_ln u x ∧ N_fi u x 15 = u 15 + ja_b (N_lng u x) ∧ N_fi u x 16 = u 16 + ja_b (N_sht u x) ∧ ∀ j, j < 2342 → j ≠ 22 → j ≠ 15 → j ≠ 16 → N_fi u x j = u j := by
  have hl := @N_lf_in u x hS
  have f22 : N_f0 u x 22 = 0 := by
    unfold N_f0
    rw [ja_rs_n (by omega), ja_rs_n (by omega)]
    exact h22
  have f15 : N_f0 u x 15 = u 15 + ja_b (N_lng u x) := by
    unfold N_f0
    rw [ja_rs_s]
  have f16 : N_f0 u x 16 = u 16 + ja_b (N_sht u x) := by
    unfold N_f0
    rw [ja_rs_n (by omega), ja_rs_s]
  have fj : ∀ j, j ≠ 15 → j ≠ 16 → N_f0 u x j = u j := fun j a c => by
    unfold N_f0
    rw [ja_rs_n a, ja_rs_n c]
  have g22 : ∀ (h : Nat → Int) (k : Nat), 0 ≤ N_gs (N_f0 u x) h k 22 := fun h k => by
    rw [N_gs_22]
    omega
  have hlo : ∀ j, j < 2342 → j ≠ 22 → N_fi u x j = N_f0 u x j := fun j a c => by
    unfold N_fi
    split
    · rw [N_gs_lo (g22 _ _) a c, N_gs_lo (by omega) a c]
    · split
      · rw [N_gs_lo (by rw [N_gs_22]; have := g22 (N_wx u x) (N_lf u x).toNat; omega) a c, N_gs_lo (g22 _ _) a c, N_gs_lo (by omega) a c]
      · rw [N_gs_lo (g22 _ _) a c, N_gs_lo (by omega) a c]
  refine ⟨?_, by rw [hlo 15 (by omega) (by omega)]; exact f15, by rw [hlo 16 (by omega) (by omega)]; exact f16, fun j a c d e => by rw [hlo j a c]; exact fj j d e⟩
  unfold N_fi N_ln
  split
  · rw [N_gs_22, N_gs_22, f22]
    omega
  · split
    · rw [N_gs_22, N_gs_22, N_gs_22, f22]
      omega
    · rw [N_gs_22, N_gs_22, f22]
      omega
-- the class
theorem P_lg_k {g g' : Nat → Int} {ex : Int} : ∀ k : Nat, (∀ j, j < 2 * (k + 2) → g j = g' j) → P_lg g ex k = P_lg g' ex k := by
  have d : ∀ (p i : Nat), (∀ j, j < i + p → g j = g' j) → P_dif g p i = P_dif g' p i := fun p i => by
    induction i with
    | zero =>
      intro _
      rfl
    | succ i ih =>
      intro h
      simp only [P_dif]
      rw [ih (fun j hj => h j (by omega)), h i (by omega), h (i + p) (by omega)]
  intro k
  induction k with
  | zero =>
    intro h
    simp only [P_lg]
    rw [d 2 2 (fun j hj => h j (by omega))]
  | succ k ih =>
    intro h
    simp only [P_lg]
    rw [ih (fun j hj => h j (by omega)), d (k + 3) (k + 3) (fun j hj => h j (by omega))]
theorem P_ldr_v {mem : ja_M} {s : Nat} {x : Int} {f : Nat → Int} : ∀ k j : Nat, j < k → P_ldr mem s x f k j = ja_wave mem s x j
  | 0, j, hj => by omega
  | k + 1, j, hj => by
    simp only [P_ldr]
    by_cases h : j = k
    · subst h
      rw [ja_rs_s]
    · rw [ja_rs_n h]
      exact P_ldr_v k j (by omega)
theorem P_beg_3 {mem : ja_M} {a : Nat} {k : Int} (j : Nat) : P_beg mem a k (a + 3) j = if j = (mem a 6 % 32).toNat then k else mem (a + 3) j := by
  unfold P_beg
  rw [ja_up_a (by omega), ja_up_a (by omega), ja_up_a (by omega)]
  by_cases h : j = (mem a 6 % 32).toNat
  · rw [if_pos h, h, ja_up_s]
  · rw [if_neg h, ja_up_j h]
/-- the player's row behind a frame taken -/
def P_rw (M mem : ja_M) (b : Nat) (kd ln : Int) : Prop := (M (b + 9) 1 = ln ∧ M (b + 9) 2 = 0 ∧ M (b + 9) 4 = mem (b + 9) 4 ∧ M (b + 9) 6 = mem (b + 9) 6 + 1) ∧ ∀ j, M (b + 12) j = if j = (mem (b + 9) 6 % 32).toNat then kd else mem (b + 12) j
theorem P_pts_n {mem : ja_M} {a : Nat} {h : Nat → Int} {k : Nat} (h0 : 0 ≤ mem a 1) (h1 : mem a 1 + k ≤ 24) : P_pts mem a h k a 1 = mem a 1 + k := by
  rw [P_pts_1 ⟨h0, by omega⟩, if_pos h1]
theorem P_cpr_n {mem : ja_M} {a : Nat} {n : Int} (h1 : mem a 1 = 0) (hn : n ≤ 16) (hl : 2 ≤ (P_lg (mem (a + 4)) 1 (n / 2 - 2).toNat).1 ∧ 2 * (P_lg (mem (a + 4)) 1 (n / 2 - 2).toNat).1 ≤ n) : P_cpr mem a n a 1 = n - (P_lg (mem (a + 4)) 1 (n / 2 - 2).toNat).1 ∧ (∀ j, j ≠ 1 → P_cpr mem a n a j = mem a j) := by
  unfold P_cpr
  generalize (P_lg (mem (a + 4)) 1 (n / 2 - 2).toNat).1 = p at *
  refine ⟨?_, fun j hj => by rw [P_pts_j hj, P_pts_j hj]⟩
  have e := P_pts_n (mem := mem) (a := a) (h := fun i => P_mx (mem (a + 4) i) (mem (a + 4) (i + p.toNat)) p i) (k := p.toNat) (by omega) (by omega)
  rw [P_pts_n (by rw [e]; omega) (by rw [e]; omega), e]
  omega
theorem P_str_n {mem : ja_M} {a : Nat} {n : Int} (h1 : mem a 1 = 0) (hn : n ≤ 16) (hl : 2 ≤ (P_lg (mem (a + 4)) 1 (n / 2 - 2).toNat).1 ∧ 2 * (P_lg (mem (a + 4)) 1 (n / 2 - 2).toNat).1 ≤ n) : P_str mem a n a 1 = n + (P_lg (mem (a + 4)) 1 (n / 2 - 2).toNat).1 ∧ (∀ j, j ≠ 1 → P_str mem a n a j = mem a j) := by
  unfold P_str
  generalize (P_lg (mem (a + 4)) 1 (n / 2 - 2).toNat).1 = p at *
  refine ⟨?_, fun j hj => by rw [P_pts_j hj, P_pts_j hj, P_pts_j hj]⟩
  have e := P_pts_n (mem := mem) (a := a) (h := fun i => mem (a + 4) (0 + i)) (k := p.toNat) (by omega) (by omega)
  have e2 := P_pts_n (mem := P_pts mem a (fun i => mem (a + 4) (0 + i)) p.toNat) (a := a) (h := fun i => P_mx (mem (a + 4) (i + p.toNat)) (mem (a + 4) i) p i) (k := p.toNat) (by rw [e]; omega) (by rw [e]; omega)
  rw [P_pts_n (by rw [e2, e]; omega) (by rw [e2, e]; omega), e2, e]
  omega
theorem P_con_rw {mem : ja_M} {b : Nat} {n g : Int} (hn : 0 ≤ n ∧ n ≤ 24) : P_rw (P_con (P_beg (C_co mem (b + 14)) (b + 9) 3) (b + 9) n g) mem b 3 n ∧ P_con (P_beg (C_co mem (b + 14)) (b + 9) 3) (b + 9) n g (b + 14) = C_co mem (b + 14) (b + 14) := by
  obtain ⟨p1, p2, p4, p6⟩ := @P_beg_s (C_co mem (b + 14)) (b + 9) 3
  have c9 : C_co mem (b + 14) (b + 9) = mem (b + 9) := C_co_o (by omega)
  have c12 : C_co mem (b + 14) (b + 12) = mem (b + 12) := C_co_o (by omega)
  rw [c9] at p4 p6
  have hj : ∀ j, j ≠ 1 → P_con (P_beg (C_co mem (b + 14)) (b + 9) 3) (b + 9) n g (b + 9) j = P_beg (C_co mem (b + 14)) (b + 9) 3 (b + 9) j := fun j h => by
    unfold P_con
    rw [P_pts_j h, ja_rw_n (by omega)]
  refine ⟨⟨⟨?_, by rw [hj 2 (by omega)]; exact p2, by rw [hj 4 (by omega)]; exact p4, by rw [hj 6 (by omega)]; exact p6⟩, fun j => ?_⟩, ?_⟩
  · unfold P_con
    rw [P_pts_n (by rw [ja_rw_n (by omega), p1]; omega) (by rw [ja_rw_n (by omega), p1]; omega), ja_rw_n (by omega), p1]
    omega
  · rw [P_con_o ⟨by omega, by omega⟩ (by omega)]
    have h3 := P_beg_3 (mem := C_co mem (b + 14)) (a := b + 9) (k := 3) j
    rw [show b + 9 + 3 = b + 12 from rfl, c9, c12] at h3
    exact h3
  · rw [P_con_o ⟨by omega, by omega⟩ (by omega), P_beg_o ⟨by omega, by omega⟩]
theorem S_p_tk {mem M : ja_M} {b : Nat} {v : Nat → Int} {t : Int} (hO : N_O v t) (hn : v 11 ≤ 999) (h : S_p mem b v) (hr : P_rw M mem b (N_kd v (v 11)) (N_tk v 22)) (h14 : M (b + 14) 0 = N_tk v 19 ∧ M (b + 14) 1 = N_tk v 20 ∧ M (b + 14) 2 = N_tk v 21 ∧ M (b + 14) 3 = N_tk v 15 ∧ M (b + 14) 4 = N_tk v 16 ∧ M (b + 14) 5 = N_tk v 17 ∧ M (b + 14) 6 = N_tk v 18 ∧ M (b + 14) 7 = N_tk v 13 ∧ M (b + 14) 8 = N_tk v 14) : S_p M b (N_tk v) := by
  obtain ⟨-, k11, k23, kk⟩ := N_tk_O hO hn
  have hC := hO.1.C
  obtain ⟨⟨p1, p2, p4, p6⟩, hkd, -⟩ := h
  obtain ⟨⟨r1, r2, r4, r6⟩, r12⟩ := hr
  refine ⟨⟨r1, by rw [k23]; exact r2, by rw [r4, kk 12 (by omega)]; exact p4, by rw [r6, k11, p6]⟩, fun i i1 i2 => ?_, h14⟩
  rw [k11] at i2 ⊢
  rw [r12, p6, N_tk_kd hO hn i i1]
  by_cases h0 : i = 0
  · rw [if_pos h0, if_pos (by omega)]
  · rw [if_neg h0, if_neg (by omega)]
    have := hkd (i - 1) (by omega) (by omega)
    rw [show ((v 11 + 1 - 1 - (i : Int)) % 32).toNat = ((v 11 - 1 - ((i - 1 : Nat) : Int)) % 32).toNat by omega, this]
    congr 1
    omega
end
section
-- TAKING A FRAME, FOR BOTH
theorem R_lw_v {M : ja_M} {b : Nat} {u : Nat → Int} {x : Int} (hs : ∀ j, j < 9 → M (b + 1) j = u j) {j : Nat} (hj : (j : Int) < u 0) : R_lw M b x (b + 9 + 4) j = N_wx u x j := by
  unfold R_lw
  rw [ja_rw_s, P_ldr_v _ j (by rw [hs 0 (by omega)]; omega), ja_wave_N hs]
  rfl
theorem R_lag {M M1 : ja_M} {b : Nat} {u : Nat → Int} {x : Int} (hS : N_S u) (hs : ∀ j, j < 9 → M (b + 1) j = u j) (h13 : M1 (b + 9 + 4) = R_lw M b x (b + 9 + 4)) : (P_lg (M1 (b + 9 + 4)) 1 (u 0 / 2 - 2).toNat).1 = N_lf u x := by
  have h0 := hS.1
  unfold N_lf
  rw [h13, P_lg_k (g' := N_wx u x) _ (fun j hj => R_lw_v hs (by omega))]
theorem R_pkn_N {M : ja_M} {b : Nat} {u : Nat → Int} {x : Int} (hS : N_S u) (hs : ∀ j, j < 9 → M (b + 1) j = u j) (h1 : M (b + 9) 1 = 0) (ht : R_tg M b = N_tg u) (hv : R_lv M b (x + 1) = N_lv u (x + 1)) : R_pkn M b x (b + 9) 1 = N_ln u x ∧ (∀ j, j ≠ 1 → R_pkn M b x (b + 9) j = M (b + 9) j) ∧ (∀ q, q ≠ b + 9 → q ≠ b + 9 + 1 → q ≠ b + 9 + 4 → q ≠ b + 14 → R_pkn M b x q = M q) ∧ ∀ j, R_pkn M b x (b + 14) j = M (b + 14) j + if j = 3 then ja_b (N_lng u x) else if j = 4 then ja_b (N_sht u x) else 0 := by
  have h0 := hS.1
  have h8 := hS.2.2.2.2.2.2.2.2
  have hl := @N_lf_in u x hS
  have e0 := hs 0 (by omega)
  have e8 := hs 8 (by omega)
  have l8 : R_lw M b x (b + 1) 8 = u 8 := by rw [R_lw_o (by omega), e8]
  have c1 : (R_lw M b x (b + 1) 8 ≠ 0 ∧ R_tg M b + M (b + 1) 0 < R_lv M b (x + 1)) ↔ N_sht u x := by
    rw [l8, ht, hv, e0]
    unfold N_sht
    constructor
    · rintro ⟨a, c⟩
      exact ⟨by omega, c⟩
    · rintro ⟨a, c⟩
      exact ⟨by omega, c⟩
  have c2 : (R_lw M b x (b + 1) 8 ≠ 0 ∧ R_lv M b (x + 1) + M (b + 1) 0 < R_tg M b) ↔ N_lng u x := by
    rw [l8, ht, hv, e0]
    unfold N_lng
    constructor
    · rintro ⟨a, c⟩
      exact ⟨by omega, c⟩
    · rintro ⟨a, c⟩
      exact ⟨by omega, c⟩
  have hrow : ∀ q, q ≠ b + 9 → q ≠ b + 9 + 1 → q ≠ b + 9 + 4 → q ≠ b + 14 → R_pkn M b x q = M q := fun q a c d e => R_pkn_o ⟨a, c⟩ d e
  suffices hh : R_pkn M b x (b + 9) 1 = N_ln u x ∧ (∀ j, j ≠ 1 → R_pkn M b x (b + 9) j = M (b + 9) j) ∧ ∀ j, R_pkn M b x (b + 14) j = M (b + 14) j + if j = 3 then ja_b (N_lng u x) else if j = 4 then ja_b (N_sht u x) else 0 from ⟨hh.1, hh.2.1, hrow, hh.2.2⟩
  unfold R_pkn N_ln
  rw [e0]
  rw [e0] at c1 c2
  by_cases hsht : N_sht u x
  · have hnl : ¬ N_lng u x := fun q => by
      have q1 := hsht.2
      have q2 := q.2
      omega
    rw [if_pos (c1.mpr hsht), if_pos hsht]
    have hlag := R_lag (M1 := ja_up (R_lw M b x) (b + 14) 4 (R_lw M b x (b + 14) 4 + 1)) (x := x) hS hs (ja_up_row (by omega))
    obtain ⟨g1, g2⟩ := P_cpr_n (mem := ja_up (R_lw M b x) (b + 14) 4 (R_lw M b x (b + 14) 4 + 1)) (a := b + 9) (n := u 0) (by rw [ja_up_a (by omega), R_lw_o (by omega)]; exact h1) (by omega) (by rw [hlag]; exact hl)
    rw [hlag] at g1
    refine ⟨g1, fun j hj => by rw [g2 j hj, ja_up_a (by omega), R_lw_o (by omega)], fun j => ?_⟩
    rw [P_cpr_o ⟨by omega, by omega⟩]
    by_cases j4 : j = 4
    · subst j4
      rw [ja_up_s, R_lw_o (by omega), if_neg (by omega), if_pos rfl, show ja_b (N_sht u x) = 1 from if_pos hsht]
    · rw [ja_up_j j4, R_lw_o (by omega), show ja_b (N_lng u x) = 0 from if_neg hnl, if_neg j4]
      split <;> omega
  · rw [if_neg (fun q => hsht (c1.mp q)), if_neg hsht, show ja_b (N_sht u x) = 0 from if_neg hsht]
    by_cases hlng : N_lng u x
    · rw [if_pos (c2.mpr hlng), if_pos hlng, show ja_b (N_lng u x) = 1 from if_pos hlng]
      have hlag := R_lag (M1 := ja_up (R_lw M b x) (b + 14) 3 (R_lw M b x (b + 14) 3 + 1)) (x := x) hS hs (ja_up_row (by omega))
      obtain ⟨g1, g2⟩ := P_str_n (mem := ja_up (R_lw M b x) (b + 14) 3 (R_lw M b x (b + 14) 3 + 1)) (a := b + 9) (n := u 0) (by rw [ja_up_a (by omega), R_lw_o (by omega)]; exact h1) (by omega) (by rw [hlag]; exact hl)
      rw [hlag] at g1
      refine ⟨g1, fun j hj => by rw [g2 j hj, ja_up_a (by omega), R_lw_o (by omega)], fun j => ?_⟩
      rw [P_str_o ⟨by omega, by omega⟩]
      by_cases j3 : j = 3
      · subst j3
        rw [ja_up_s, R_lw_o (by omega), if_pos rfl]
      · rw [ja_up_j j3, R_lw_o (by omega), if_neg j3]
        split <;> omega
    · rw [if_neg (fun q => hlng (c2.mp q)), if_neg hlng, show ja_b (N_lng u x) = 0 from if_neg hlng]
      refine ⟨?_, fun j hj => by rw [P_pts_j hj, R_lw_o (by omega)], fun j => ?_⟩
      · rw [P_pts_n (by rw [R_lw_o (by omega), h1]; omega) (by rw [R_lw_o (by omega), h1]; omega), R_lw_o (by omega), h1]
        omega
      · rw [P_pts_o ⟨by omega, by omega⟩, R_lw_o (by omega)]
        split
        · omega
        · split <;> omega
theorem C_co_j {mem : ja_M} {a j : Nat} (h2 : j ≠ 2) (h7 : j ≠ 7) (h8 : j ≠ 8) : C_co mem a a j = mem a j := by
  unfold C_co
  rw [ja_up_j h8, ja_up_j h7, ja_up_j h2]
theorem C_kn_v {mem : ja_M} {a j : Nat} {k : Int} (hk : k = 1 ∨ k = 2) (h7 : j ≠ 7) : C_kn mem a k a j = mem a j + if (j : Int) + 1 = k then 1 else 0 := by
  unfold C_kn
  rw [ja_up_j h7]
  rcases hk with rfl | rfl
  · rw [if_pos rfl]
    by_cases hj : j = 0
    · subst hj
      rw [ja_up_s, if_pos (by decide)]
    · rw [ja_up_j hj, if_neg (by omega)]
      omega
  · rw [if_neg (by decide)]
    by_cases hj : j = 1
    · subst hj
      rw [ja_up_s, if_pos (by decide)]
    · rw [ja_up_j hj, if_neg (by omega)]
      omega
theorem S_p_tf {mem : ja_M} {b : Nat} {v : Nat → Int} {t : Int} (hO : N_O v t) (hn : v 11 ≤ 999) (hs : ∀ j, j < 9 → mem (b + 1) j = v j) (hf : S_f mem b v) (hw : S_w mem b v) (hp : S_p mem b v) : S_p (R_tf mem b (mem (b + 9) 6)) b (N_tk v) := by
  have hC := hO.1.C
  have hS := hO.1.S
  have h0 := hS.1
  have hst := F_st_v hO.1 hs hf (x := v 11) ⟨by omega, hn⟩
  have hF := hO.1.F (j := (30 + v 11).toNat) (by omega) (by omega)
  obtain ⟨⟨p1, p2, p4, p6⟩, hkd, c0, c1, c2, c3, c4, c5, c6, c7, c8⟩ := id hp
  unfold R_tf
  rw [p6, hst]
  by_cases hz : v (30 + v 11).toNat = 0
  · have hk3 : N_kd v (v 11) = 3 := by
      unfold N_kd
      rw [if_neg (by omega), if_neg (by omega)]
    rw [if_pos hz]
    obtain ⟨u13, u14, u22, uu⟩ := N_tu_3 hk3
    obtain ⟨hr, h14⟩ := P_con_rw (mem := mem) (b := b) (n := mem (b + 1) 0) (g := mem (b + 14) 7 + 1) (by rw [hs 0 (by omega)]; omega)
    have e : ∀ j : Nat, j ≠ 11 → j < 2310 → N_tk v j = N_tu v j + if (j : Int) = 18 + 3 then 1 else 0 := fun j a c => by
      have := N_tk_e v a c
      rw [hk3] at this
      exact this
    refine S_p_tk hO hn hp ?_ ?_
    · rw [hk3, e 22 (by omega) (by omega), u22, if_neg (by decide), show ((v 0).toNat : Int) + 0 = mem (b + 1) 0 by rw [hs 0 (by omega)]; omega]
      exact hr
    · obtain ⟨k7, k8, k2⟩ := @C_co_s mem (b + 14)
      rw [h14, e 19 (by omega) (by omega), e 20 (by omega) (by omega), e 21 (by omega) (by omega), e 15 (by omega) (by omega), e 16 (by omega) (by omega), e 17 (by omega) (by omega), e 18 (by omega) (by omega), e 13 (by omega) (by omega), e 14 (by omega) (by omega), u13, u14, uu 19 (by omega) (by omega), uu 20 (by omega) (by omega), uu 21 (by omega) (by omega), uu 15 (by omega) (by omega), uu 16 (by omega) (by omega), uu 17 (by omega) (by omega), uu 18 (by omega) (by omega), C_co_j (j := 0) (by omega) (by omega) (by omega), C_co_j (j := 1) (by omega) (by omega) (by omega), C_co_j (j := 3) (by omega) (by omega) (by omega), C_co_j (j := 4) (by omega) (by omega) (by omega), C_co_j (j := 5) (by omega) (by omega) (by omega), C_co_j (j := 6) (by omega) (by omega) (by omega), k7, k8, k2, c0, c1, c2, c3, c4, c5, c6, c7, c8]
      refine ⟨?_, ?_, ?_, ?_, ?_, ?_, ?_, ?_, ?_⟩
      · rw [if_neg (by decide)]; omega
      · rw [if_neg (by decide)]; omega
      · rw [if_pos (by decide)]
      · rw [if_neg (by decide)]; omega
      · rw [if_neg (by decide)]; omega
      · rw [if_neg (by decide)]; omega
      · rw [if_neg (by decide)]; omega
      · rw [if_neg (by decide)]; omega
      · rw [if_neg (show ¬ ((14 : Nat) : Int) = 18 + 3 by decide)]; omega
  · rw [if_neg hz]
    obtain ⟨k, hk⟩ : ∃ k : Int, k = if v (30 + v 11).toNat = 2 then 1 else 2 := ⟨_, rfl⟩
    have hk12 : k = 1 ∨ k = 2 := by
      rw [hk]
      split <;> omega
    have hkk : N_kd v (v 11) = k := by
      rw [hk]
      unfold N_kd
      split
      · rfl
      · rw [if_pos (by omega)]
    rw [← hk]
    have hR0 : N_R (N_t0 v) := (hO.1.rs (i := 22) (show (0 : Int) ≤ 0 ∧ (0 : Int) ≤ 24 by omega)).rs (i := 23) (show (0 : Int) ≤ 0 ∧ (0 : Int) ≤ 24 by omega)
    have hRu : N_R (ja_rs (N_t0 v) 13 0) := hR0.rs (show (0 : Int) ≤ 0 ∧ (0 : Int) ≤ 1000 by omega)
    have uj : ∀ j, j ≠ 13 → j ≠ 22 → j ≠ 23 → ja_rs (N_t0 v) 13 0 j = v j := fun j a c d => by
      unfold N_t0
      rw [ja_rs_n a, ja_rs_n d, ja_rs_n c]
    have u22 : ja_rs (N_t0 v) 13 0 22 = 0 := by
      unfold N_t0
      rw [ja_rs_n (by omega), ja_rs_n (by omega), ja_rs_s]
    have u13 : ja_rs (N_t0 v) 13 0 13 = 0 := ja_rs_s _ _ _
    have etu : N_tu v = N_fi (ja_rs (N_t0 v) 13 0) (v 11) := if_neg (by omega)
    generalize ja_rs (N_t0 v) 13 0 = u at *
    have hrow : ∀ q, q ≠ b + 9 → q ≠ b + 12 → q ≠ b + 14 → P_beg (C_kn mem (b + 14) k) (b + 9) k q = mem q := fun q a c d => by rw [P_beg_o ⟨a, c⟩, C_kn_o d]
    have hb14 : P_beg (C_kn mem (b + 14) k) (b + 9) k (b + 14) = C_kn mem (b + 14) k (b + 14) := P_beg_o ⟨by omega, by omega⟩
    obtain ⟨q1, q2, q4, q6⟩ := @P_beg_s (C_kn mem (b + 14) k) (b + 9) k
    have q12 := P_beg_3 (mem := C_kn mem (b + 14) k) (a := b + 9) (k := k)
    rw [C_kn_o (by omega)] at q4 q6
    rw [C_kn_o (show b + 9 ≠ b + 14 by omega), C_kn_o (show b + 9 + 3 ≠ b + 14 by omega)] at q12
    generalize P_beg (C_kn mem (b + 14) k) (b + 9) k = M at *
    have hsM : ∀ j, j < 9 → M (b + 1) j = u j := fun j hj => by
      rw [hrow _ (by omega) (by omega) (by omega), uj j (by omega) (by omega) (by omega)]
      exact hs j hj
    have hfM : S_f M b u := S_f_cg hS (fun q a c => hrow q (by omega) (by omega) (by omega)) (fun j hj => uj j (by omega) (by omega) (by omega)) hf
    have hwM : S_w M b u := S_w_cg (fun q a c => hrow q (by omega) (by omega) (by omega)) (fun j hj => uj j (by omega) (by omega) (by omega)) hw
    obtain ⟨g1, g2, g3, g4⟩ := R_pkn_N (x := v 11) hRu.S hsM q1 (T_spr_N hRu.S hsM hwM) (R_lv_N hRu hsM hfM ⟨by omega, by omega⟩)
    obtain ⟨f22, f15, f16, ff⟩ := N_fi_v (x := v 11) hRu.S u22
    have e : ∀ j : Nat, j ≠ 11 → j < 2310 → N_tk v j = N_fi u (v 11) j + if (j : Int) = 18 + k then 1 else 0 := fun j a c => by
      have := N_tk_e v a c
      rw [hkk, etu] at this
      exact this
    refine S_p_tk hO hn hp ⟨⟨?_, ?_, ?_, ?_⟩, fun j => ?_⟩ ?_
    · rw [g1, e 22 (by omega) (by omega), f22, if_neg (by omega)]
      omega
    · rw [g2 2 (by omega)]
      exact q2
    · rw [g2 4 (by omega)]
      exact q4
    · rw [g2 6 (by omega)]
      exact q6
    · rw [g3 _ (by omega) (by omega) (by omega) (by omega), hkk]
      exact q12 j
    · have C7 := (@C_kn_s mem (b + 14) k).1
      rw [g4 0, g4 1, g4 2, g4 3, g4 4, g4 5, g4 6, g4 7, g4 8, hb14, C_kn_v hk12 (by omega), C_kn_v hk12 (by omega), C_kn_v hk12 (by omega), C_kn_v hk12 (by omega), C_kn_v hk12 (by omega), C_kn_v hk12 (by omega), C_kn_v hk12 (by omega), C7, C_kn_v hk12 (by omega), e 19 (by omega) (by omega), e 20 (by omega) (by omega), e 21 (by omega) (by omega), e 15 (by omega) (by omega), e 16 (by omega) (by omega), e 17 (by omega) (by omega), e 18 (by omega) (by omega), e 13 (by omega) (by omega), e 14 (by omega) (by omega), f15, f16, ff 19 (by omega) (by omega) (by omega) (by omega), ff 20 (by omega) (by omega) (by omega) (by omega), ff 21 (by omega) (by omega) (by omega) (by omega), ff 17 (by omega) (by omega) (by omega) (by omega), ff 18 (by omega) (by omega) (by omega) (by omega), ff 13 (by omega) (by omega) (by omega) (by omega), ff 14 (by omega) (by omega) (by omega) (by omega), u13, uj 19 (by omega) (by omega) (by omega), uj 20 (by omega) (by omega) (by omega), uj 21 (by omega) (by omega) (by omega), uj 15 (by omega) (by omega) (by omega), uj 16 (by omega) (by omega) (by omega), uj 17 (by omega) (by omega) (by omega), uj 18 (by omega) (by omega) (by omega), uj 14 (by omega) (by omega) (by omega), c0, c1, c2, c3, c4, c5, c6, c8]
      rcases hk12 with rfl | rfl
      · refine ⟨?_, ?_, ?_, ?_, ?_, ?_, ?_, ?_, ?_⟩ <;> simp <;> try omega
      · refine ⟨?_, ?_, ?_, ?_, ?_, ?_, ?_, ?_, ?_⟩ <;> simp <;> try omega
/-- a sample goes out -/
theorem S_p_out {mem : ja_M} {b : Nat} {v : Nat → Int} {t : Int} (hO : N_O v t) (h : S_p mem b v) : S_p (P_out mem (b + 9)) b (N_t3 v) := by
  have hC := hO.1.C
  obtain ⟨⟨p1, p2, p4, p6⟩, hkd, hc⟩ := id h
  unfold P_out N_t3
  rw [p1, p2]
  by_cases hq : v 23 < v 22
  · rw [if_pos hq, if_pos hq]
    have en : ∀ j, j ≠ 12 → j ≠ 23 → (j < 2054 ∨ 2310 ≤ j) → ja_rs (ja_rs (ja_rs v (2054 + v 12 % 256).toNat (v (2342 + v 23).toNat)) 12 (v 12 + 1)) 23 (v 23 + 1) j = v j := fun j a1 a2 a3 => by rw [ja_rs_n a2, ja_rs_n a1, ja_rs_n (by omega)]
    have e12 : ja_rs (ja_rs (ja_rs v (2054 + v 12 % 256).toNat (v (2342 + v 23).toNat)) 12 (v 12 + 1)) 23 (v 23 + 1) 12 = v 12 + 1 := by rw [ja_rs_n (by omega), ja_rs_s]
    have e23 : ja_rs (ja_rs (ja_rs v (2054 + v 12 % 256).toNat (v (2342 + v 23).toNat)) 12 (v 12 + 1)) 23 (v 23 + 1) 23 = v 23 + 1 := ja_rs_s _ _ _
    generalize ja_rs (ja_rs (ja_rs v (2054 + v 12 % 256).toNat (v (2342 + v 23).toNat)) 12 (v 12 + 1)) 23 (v 23 + 1) = w at *
    unfold S_p
    rw [e12, e23, en 22 (by omega) (by omega) (by omega), en 11 (by omega) (by omega) (by omega), en 19 (by omega) (by omega) (by omega), en 20 (by omega) (by omega) (by omega), en 21 (by omega) (by omega) (by omega), en 15 (by omega) (by omega) (by omega), en 16 (by omega) (by omega) (by omega), en 17 (by omega) (by omega) (by omega), en 18 (by omega) (by omega) (by omega), en 13 (by omega) (by omega) (by omega), en 14 (by omega) (by omega) (by omega)]
    rw [ja_up_row (show b + 12 ≠ b + 9 by omega), ja_up_row (show b + 12 ≠ b + 9 by omega), ja_up_row (show b + 12 ≠ b + 9 + 2 by omega), ja_up_row (show b + 14 ≠ b + 9 by omega), ja_up_row (show b + 14 ≠ b + 9 by omega), ja_up_row (show b + 14 ≠ b + 9 + 2 by omega)]
    refine ⟨⟨?_, ?_, ?_, ?_⟩, fun i i1 i2 => by rw [en _ (by omega) (by omega) (by omega)]; exact hkd i i1 i2, hc⟩
    · rw [ja_up_j (by omega), ja_up_j (by omega), ja_up_a (by omega)]
      exact p1
    · rw [ja_up_s]
    · rw [ja_up_j (by omega), ja_up_s, p4]
    · rw [ja_up_j (by omega), ja_up_j (by omega), ja_up_a (by omega)]
      exact p6
  · rw [if_neg hq, if_neg hq]
    exact h
theorem S_p_pl {mem : ja_M} {b : Nat} {v : Nat → Int} {t : Int} (hO : N_O v t) (hb : S_b mem b v) (hf : S_f mem b v) (hw : S_w mem b v) (hp : S_p mem b v) : S_p (R_pl mem b) b (N_pl v) := by
  obtain ⟨b1, b6, bs, -⟩ := hb
  obtain ⟨⟨p1, p2, p4, p6⟩, -⟩ := id hp
  have hon : (mem b 7 ≠ 0 ∧ mem b 8 ≤ mem b 6) ↔ N_on v := by
    unfold N_on
    rcases bs with ⟨s7, s10⟩ | ⟨s7, s10, s8⟩
    · constructor
      · rintro ⟨a, -⟩
        exact absurd s7 a
      · rintro ⟨a, -⟩
        omega
    · rw [s8, b6]
      constructor
      · rintro ⟨a, c⟩
        exact ⟨s10, c⟩
      · rintro ⟨a, c⟩
        exact ⟨by omega, c⟩
  unfold R_pl N_pl
  by_cases hq : N_on v
  · rw [if_pos hq, if_pos (hon.mpr hq)]
    refine S_p_out (N_t2_O hO).1 ?_
    unfold N_t2
    by_cases hc : v 23 = v 22 ∧ v 11 ≤ 999
    · rw [if_pos hc, if_pos (by rw [p1, p2, p6]; omega)]
      exact S_p_cg (fun _ _ => rfl) rfl rfl (fun j hj => ja_rs_n (by omega)) (S_p_tf hO hc.2 b1 hf hw hp)
    · rw [if_neg hc, if_neg (by rw [p1, p2, p6]; omega)]
      exact hp
  · rw [if_neg hq, if_neg (fun q => hq (hon.mp q))]
    exact hp
end
section
-- THE WHOLE TIE, BUT FOR THE SAMPLES PUT OUT
def C6 (v : Nat → Int) : Prop := (2 ≤ v 3 ∧ v 3 ≤ 6) ∧ 2 ≤ v 4 ∧ v 4 ≤ 6
theorem C6_S {v : Nat → Int} (h : C6 v) : ∃ w : Nat → Int, N_S w ∧ w 3 = v 3 ∧ w 4 = v 4 := by
  refine ⟨fun j => if j = 3 then v 3 else if j = 4 then v 4 else N_v0 j, ⟨show 4 ≤ N_v0 0 ∧ N_v0 0 ≤ 16 by decide, show 2 ≤ N_v0 1 ∧ N_v0 1 ≤ 32 by decide, show 1 ≤ N_v0 2 ∧ N_v0 2 ≤ 200 by decide, h.1, h.2, show 0 ≤ N_v0 5 ∧ N_v0 5 ≤ 200 by decide, show 1 ≤ N_v0 6 ∧ N_v0 6 ≤ 100 by decide, show 0 ≤ N_v0 7 ∧ N_v0 7 ≤ 100 by decide, show 0 ≤ N_v0 8 ∧ N_v0 8 ≤ 1 by decide⟩, rfl, rfl⟩
theorem N_S.c6 {v : Nat → Int} (h : N_S v) : C6 v := ⟨h.2.2.2.1, h.2.2.2.2.1⟩
/-- only the blocks' settings count -/
theorem N_34 {v w : Nat → Int} (h3 : w 3 = v 3) (h4 : w 4 = v 4) : N_ar w = N_ar v ∧ (∀ r k i, N_pk w r k i = N_pk v r k i) ∧ ∀ r k i, (N_hP w r k i ↔ N_hP v r k i) := by
  have e : N_ar w = N_ar v := by
    unfold N_ar
    rw [h3, h4]
  refine ⟨e, fun r k i => ?_, fun r k i => ?_⟩
  · unfold N_pk
    rw [h3, h4]
  · simp only [N_hP, N_hB, e, h3, h4]
theorem C6_in {v : Nat → Int} (h : C6 v) : (4 ≤ N_ar v ∧ N_ar v ≤ 36) ∧ (∀ k c : Nat, N_ar v * k + c ≤ 999 → k < 250) ∧ ∀ r k i, N_hP v r k i → (1030 ≤ N_pk v r k i ∧ N_pk v r k i < 2054) ∧ 0 ≤ k ∧ k ≤ 249 := by
  obtain ⟨w, hS, e3, e4⟩ := C6_S h
  obtain ⟨ea, ep, eh⟩ := N_34 e3 e4
  have har := N_ar_in hS
  rw [ea] at har
  refine ⟨har, fun k c hk => ?_, fun r k i hP => ?_⟩
  · have := Int.mul_le_mul_of_nonneg_right har.1 (by omega : 0 ≤ (k : Int))
    omega
  · have hP2 := (eh r k i).mpr hP
    have hp := N_pk_in (r := r) hS hP2.1 (N_hP_6 hS hP2)
    rw [ep] at hp
    exact ⟨hp, (N_bk hS hP2.1).1⟩
theorem S_f_c6 {mem mem' : ja_M} {b b' : Nat} {v v' : Nat → Int} (h6 : C6 v) (hm : ∀ c j, 3 ≤ c → c ≤ 5 → j < 250 → mem' (b' + c) j = mem (b + c) j) (h3 : v' 3 = v 3) (h4 : v' 4 = v 4) (hv : ∀ j, 30 ≤ j → j < 2054 → v' j = v j) (h : S_f mem b v) : S_f mem' b' v' := by
  obtain ⟨har, hk, hpk⟩ := C6_in h6
  obtain ⟨ea, ep, eh⟩ := N_34 h3 h4
  obtain ⟨h1, h2⟩ := h
  refine ⟨fun k c hc hx => ?_, fun r k i r0 r1 hP => ?_⟩
  · rw [ea] at hc hx ⊢
    have h0 := Int.mul_nonneg (by omega : 0 ≤ N_ar v) (by omega : 0 ≤ (k : Int))
    have hk2 := hk k c hx
    rw [hm 4 k (by omega) (by omega) hk2, hm 3 k (by omega) (by omega) hk2, hv _ (by omega) (by omega)]
    exact h1 k c hc hx
  · have hP2 := (eh r k i).mp hP
    obtain ⟨hp, hk2⟩ := hpk r k i hP2
    rw [hm 5 _ (by omega) (by omega) (by omega), ep, hv _ (by omega) (by omega)]
    exact h2 r k i r0 r1 hP2
def S_x : S_T := fun mem b v => S_b mem b v ∧ (mem b 7 = 1 → C6 v ∧ S_f mem b v) ∧ S_w mem b v ∧ S_p mem b v
theorem S_x_f {mem : ja_M} {b : Nat} {v : Nat → Int} (hS : N_S v) (h : S_x mem b v) : S_f mem b v := by
  obtain ⟨⟨-, -, hs, hz⟩, hf, -⟩ := h
  rcases hs with ⟨s7, -⟩ | ⟨s7, -⟩
  · obtain ⟨z1, z2⟩ := hz s7
    obtain ⟨har, hk, hpk⟩ := C6_in hS.c6
    refine ⟨fun k c hc hx => ?_, fun r k i r0 r1 hP => ?_⟩
    · have h0 := Int.mul_nonneg (by omega : 0 ≤ N_ar v) (by omega : 0 ≤ (k : Int))
      have hk2 := hk k c hx
      rw [z1 4 k (by omega) (by omega) hk2, z1 3 k (by omega) (by omega) hk2, z2 _ (by omega) (by omega), ja_L0, J_b_zero]
      exact ⟨⟨fun q => absurd q (by decide), fun q => absurd q (by decide)⟩, ⟨fun q => absurd q (by decide), fun q => absurd q (by decide)⟩⟩
    · obtain ⟨hp, hk2⟩ := hpk r k i hP
      rw [z1 5 _ (by omega) (by omega) (by omega), z2 _ (by omega) (by omega), Z_and0]
      exact ⟨fun _ => by decide, fun _ => rfl⟩
  · exact (hf s7).2
-- arrivals
theorem N_se_o {v : Nat → Int} {t : Int} (hR : N_R v) {j : Nat} (h24 : j ≠ 24) (hj : j < 2372 ∨ 2388 ≤ j) : N_se v t j = v j := by
  obtain ⟨-, h1, -⟩ := N_s0_R hR
  unfold N_se
  rw [ja_rs_n h24, ja_rs_n (by omega)]
  unfold N_s0
  split
  · rw [ja_rs_n h24, N_sh_n 15 (by omega)]
  · rfl
theorem N_aw_o {v : Nat → Int} {t x : Int} (h : N_O v t) (ht : t ≤ 900000) (hx : 0 ≤ x ∧ x ≤ 999) : (∀ j, j ≠ 10 → j ≠ 17 → j ≠ 24 → (j < 2372 ∨ 2388 ≤ j) → N_aw v x j = ja_rs v (30 + x).toNat 2 j) ∧ N_aw v x 17 = v 17 + if x < v 11 then 1 else 0 := by
  have hb := N_be_O h ht
  obtain ⟨a1, a2⟩ := N_a1_R hb.1 hx
  refine ⟨fun j h10 h17 h24 hj => ?_, ?_⟩
  · unfold N_aw
    rw [N_se_o a1 h24 hj]
    unfold N_a1
    rw [ja_rs_n h17]
    by_cases hq : j = (30 + x).toNat
    · rw [hq, ja_rs_s, ja_rs_s]
    · rw [ja_rs_n hq, ja_rs_n hq, N_be_n h10]
  · unfold N_aw
    rw [N_se_o a1 (by omega) (by omega)]
    unfold N_a1
    rw [ja_rs_s, N_be_n (by omega), N_be_n (by omega)]
theorem S_p_dp {mem : ja_M} {b : Nat} {v : Nat → Int} (h : S_p mem b v) : S_p (R_dp mem b) b (ja_rs v 18 (v 18 + 1)) := by
  obtain ⟨h1, h2, c0, c1, c2, c3, c4, c5, c6, c7, c8⟩ := h
  unfold S_p R_dp
  rw [ja_rs_n (show 22 ≠ 18 by omega), ja_rs_n (show 23 ≠ 18 by omega), ja_rs_n (show 12 ≠ 18 by omega), ja_rs_n (show 11 ≠ 18 by omega), ja_rs_n (show 19 ≠ 18 by omega), ja_rs_n (show 20 ≠ 18 by omega), ja_rs_n (show 21 ≠ 18 by omega), ja_rs_n (show 15 ≠ 18 by omega), ja_rs_n (show 16 ≠ 18 by omega), ja_rs_n (show 17 ≠ 18 by omega), ja_rs_n (show 13 ≠ 18 by omega), ja_rs_n (show 14 ≠ 18 by omega), ja_rs_s]
  rw [ja_up_row (show b + 9 ≠ b + 14 by omega), ja_up_row (show b + 12 ≠ b + 14 by omega)]
  refine ⟨h1, fun i i1 i2 => by rw [ja_rs_n (by omega)]; exact h2 i i1 i2, ?_⟩
  rw [ja_up_j (show 0 ≠ 6 by omega), ja_up_j (show 1 ≠ 6 by omega), ja_up_j (show 2 ≠ 6 by omega), ja_up_j (show 3 ≠ 6 by omega), ja_up_j (show 4 ≠ 6 by omega), ja_up_j (show 5 ≠ 6 by omega), ja_up_s, ja_up_j (show 7 ≠ 6 by omega), ja_up_j (show 8 ≠ 6 by omega)]
  exact ⟨c0, c1, c2, c3, c4, c5, by rw [c6], c7, c8⟩
theorem R_dp_o {mem : ja_M} {b q : Nat} (h : q ≠ b + 14) : R_dp mem b q = mem q := ja_up_row h
theorem S_x_dp {mem : ja_M} {b : Nat} {v : Nat → Int} (hS : N_S v) (hb : S_b (R_dp mem b) b (ja_rs v 18 (v 18 + 1))) (h : S_x mem b v) : S_x (R_dp mem b) b (ja_rs v 18 (v 18 + 1)) := by
  obtain ⟨-, hf, hw, hp⟩ := id h
  refine ⟨hb, fun q => ⟨?_, S_f_c6 hS.c6 (fun c j c1 c2 _ => by rw [R_dp_o (by omega)]) (ja_rs_n (by omega)) (ja_rs_n (by omega)) (fun j j1 j2 => ja_rs_n (by omega)) (S_x_f hS h)⟩, S_w_cg (fun q q1 q2 => R_dp_o (by omega)) (fun j hj => ja_rs_n (by omega)) hw, S_p_dp hp⟩
  unfold C6
  rw [ja_rs_n (by omega), ja_rs_n (by omega)]
  exact hS.c6
/-- a frame arrives: the tie behind it, and the answers -/
theorem S_x_afn {mem : ja_M} {b : Nat} {v : Nat → Int} {t x : Int} (hR : ja_RO mem b t) (hO : N_O v t) (ht : t ≤ 900000) (hx : 0 ≤ x ∧ x ≤ 999) (h : S_x mem b v) : S_x (R_af mem b x) b (N_av v x) ∧ R_an mem b x = N_an v x := by
  have hS := hO.1.S
  have hf := S_x_f hS h
  obtain ⟨hb, -, hw, hp⟩ := id h
  have hb' := S_b_af mem b v t x hR hO ht hx hb
  have hst := F_st_v hO.1 hb.1 hf hx
  have hF := hO.1.F (j := (30 + x).toNat) (by omega) (by omega)
  by_cases hk : N_kn v x
  · have hk2 : 0 < v (30 + x).toNat := hk.elim (fun q => by omega) id
    have h0 : ¬ F_st mem (b + 1) (b + 2) x = 0 := by
      rw [hst]
      omega
    have e : R_af mem b x = R_dp mem b := if_neg h0
    have e2 : N_av v x = ja_rs v 18 (v 18 + 1) := if_pos hk
    rw [e, e2] at hb' ⊢
    refine ⟨S_x_dp hS hb' h, ?_⟩
    unfold R_an N_an
    rw [if_neg h0, if_pos hk]
  · have hk2 : ¬ 0 < v (30 + x).toNat := fun q => hk (Or.inr q)
    have h0 : F_st mem (b + 1) (b + 2) x = 0 := by
      rw [hst]
      omega
    have hwO := N_aw_O hO ht hx
    have hws := N_aw_ss hO ht hx
    have hB : N_hB (N_aw v x) (x / N_ar v) := hws.hB.mpr (N_blk hS hx)
    obtain ⟨ao, a17⟩ := N_aw_o hO ht hx
    have hrow1 : ∀ q, q ≠ b → q ≠ b + 3 → q ≠ b + 4 → (q < b + 6 ∨ b + 9 ≤ q) → q ≠ b + 14 → R_kn mem b x q = mem q := fun q q0 q3 q4 q6 q14 => by
      unfold R_kn
      rw [F_ad_o ⟨by omega, by omega⟩, R_lt_o q14, R_ad_o ⟨q0, q6⟩]
    have hcl : ja_cells (R_kn mem b x) (b + 1) = N_ar v := by
      rw [ja_cells_c (hrow1 (b + 1) (by omega) (by omega) (by omega) (by omega) (by omega))]
      exact S_b_cells hb.1
    have e : R_af mem b x = R_rs (R_kn mem b x) b (x / N_ar v) := by
      unfold R_af
      rw [if_pos h0, hcl]
    have e2 : N_av v x = (N_rs 0 (x / N_ar v) 40 0 (N_aw v x)).2 := if_neg hk
    have hfr := N_rs_fr (a := 0) 40 0 (N_aw v x) hwO.1.S hB
    have hs1 : ∀ j, j < 9 → R_kn mem b x (b + 1) j = N_aw v x j := fun j hj => by
      rw [hrow1 (b + 1) (by omega) (by omega) (by omega) (by omega) (by omega), hws j hj]
      exact hb.1 j hj
    have hf1 : S_f (R_kn mem b x) b (N_aw v x) := by
      have hm : ∀ q, q = b + 1 ∨ (b + 3 ≤ q ∧ q ≤ b + 5) → R_lt (R_ad mem b x) b x q = mem q := fun q hq => by rw [R_lt_o (by omega), R_ad_o ⟨by omega, by omega⟩]
      have g0 : S_f (R_lt (R_ad mem b x) b x) b v := S_f_cg hS (fun q q1 q2 => hm q (by omega)) (fun _ _ => rfl) hf
      have g1 := F_ad_N hS (fun j hj => by rw [hm (b + 1) (by omega)]; exact hb.1 j hj) hx g0
      have hS1 : N_S (ja_rs v (30 + x).toNat 2) := (N_ss.rf.rs (by omega) : N_ss v (ja_rs v (30 + x).toNat 2)).S hS
      exact S_f_cg hS1 (fun _ _ _ => rfl) (fun j hj => ao j (by omega) (by omega) (by omega) (by omega)) g1
    have hSO : ja_SO (R_kn mem b x) (b + 1) := (R_kn_RO hR ht hx).1
    obtain ⟨r1, r2⟩ := R_rs_N hSO hwO.1 hs1 hB hf1
    have hss2 : N_ss v (N_rs 0 (x / N_ar v) 40 0 (N_aw v x)).2 := hws.tr hfr.ss
    have hrow2 : ∀ q, q ≠ b + 3 → R_rs (R_kn mem b x) b (x / N_ar v) q = R_kn mem b x q := fun q hq => R_rs_o hq
    rw [e, e2] at hb' ⊢
    refine ⟨⟨hb', fun _ => ⟨(hss2.S hS).c6, r1⟩, ?_, ?_⟩, ?_⟩
    · have g0 : S_w (R_so mem b) b (N_a1 (N_be v) x) := S_w_cg (fun q q1 q2 => R_so_o (by omega)) (fun j hj => by
        unfold N_a1
        rw [ja_rs_n (by omega), ja_rs_n (by omega), N_be_n (by omega)]) hw
      have g1 := T_add_N (t := (R_so mem b) b 6 - x * (R_so mem b) (b + 1) 0) g0
      have et : (R_so mem b) b 6 - x * (R_so mem b) (b + 1) 0 = N_be v 9 - x * N_be v 0 := by
        rw [R_so_j ⟨by omega, by omega⟩, R_so_o (by omega), hb.2.1, hb.1 0 (by omega), N_be_n (by omega), N_be_n (by omega)]
      refine S_w_cg (mem := R_ad mem b x) (v := N_aw v x) (fun q q1 q2 => ?_) (fun j hj => hfr.1 j (by omega)) ?_
      · rw [hrow2 q (by omega)]
        unfold R_kn
        rw [F_ad_o ⟨by omega, by omega⟩, R_lt_o (by omega)]
      · unfold R_ad N_aw
        rw [et] at g1 ⊢
        exact g1
    · obtain ⟨⟨p1, p2, p4, p6⟩, hkd, c0, c1, c2, c3, c4, c5, c6, c7, c8⟩ := id hp
      have w : ∀ j, j ≠ 17 → ((11 ≤ j ∧ j < 24) ∨ (2310 ≤ j ∧ j < 2342)) → (N_rs 0 (x / N_ar v) 40 0 (N_aw v x)).2 j = v j := fun j j17 hj => by
        rw [hfr.1 j (by omega), ao j (by omega) j17 (by omega) (by omega), ja_rs_n (by omega)]
      have w17 : (N_rs 0 (x / N_ar v) 40 0 (N_aw v x)).2 17 = v 17 + if x < v 11 then 1 else 0 := by rw [hfr.1 17 (by omega), a17]
      generalize (N_rs 0 (x / N_ar v) 40 0 (N_aw v x)).2 = u at *
      have hr9 : R_rs (R_kn mem b x) b (x / N_ar v) (b + 9) = mem (b + 9) := (hrow2 _ (by omega)).trans (hrow1 _ (by omega) (by omega) (by omega) (by omega) (by omega))
      have hr12 : R_rs (R_kn mem b x) b (x / N_ar v) (b + 12) = mem (b + 12) := (hrow2 _ (by omega)).trans (hrow1 _ (by omega) (by omega) (by omega) (by omega) (by omega))
      have hr14 : ∀ j, R_rs (R_kn mem b x) b (x / N_ar v) (b + 14) j = mem (b + 14) j + if j = 5 then (if x < v 11 then 1 else 0) else 0 := fun j => by
        rw [hrow2 _ (by omega)]
        unfold R_kn
        rw [F_ad_o ⟨by omega, by omega⟩]
        unfold R_lt
        rw [R_ad_o ⟨by omega, by omega⟩, R_ad_o ⟨by omega, by omega⟩, p6]
        by_cases hl : x < v 11
        · rw [if_pos hl, if_pos hl]
          by_cases hj : j = 5
          · subst hj
            rw [ja_up_s, if_pos rfl]
          · rw [ja_up_j hj, if_neg hj, R_ad_o ⟨by omega, by omega⟩]
            omega
        · rw [if_neg hl, if_neg hl, R_ad_o ⟨by omega, by omega⟩]
          split <;> omega
      unfold S_p
      rw [hr9, hr12, hr14 0, hr14 1, hr14 2, hr14 3, hr14 4, hr14 5, hr14 6, hr14 7, hr14 8, w17, w 22 (by omega) (by omega), w 23 (by omega) (by omega), w 12 (by omega) (by omega), w 11 (by omega) (by omega), w 19 (by omega) (by omega), w 20 (by omega) (by omega), w 21 (by omega) (by omega), w 15 (by omega) (by omega), w 16 (by omega) (by omega), w 18 (by omega) (by omega), w 13 (by omega) (by omega), w 14 (by omega) (by omega)]
      refine ⟨⟨p1, p2, p4, p6⟩, fun i i1 i2 => by rw [w _ (by omega) (by omega)]; exact hkd i i1 i2, ?_, ?_, ?_, ?_, ?_, ?_, ?_, ?_, ?_⟩
      · rw [if_neg (by decide)]; omega
      · rw [if_neg (by decide)]; omega
      · rw [if_neg (by decide)]; omega
      · rw [if_neg (by decide)]; omega
      · rw [if_neg (by decide)]; omega
      · rw [if_pos rfl, c5]
      · rw [if_neg (by decide)]; omega
      · rw [if_neg (by decide)]; omega
      · rw [if_neg (by decide)]; omega
    · unfold R_an N_an
      rw [if_pos h0, if_neg hk, hcl, r2]
/-- a packet arrives -/
theorem S_x_apn {mem : ja_M} {b : Nat} {v : Nat → Int} {t r k i : Int} (hR : ja_RO mem b t) (hO : N_O v t) (ht : t ≤ 900000) (hr : 0 ≤ r ∧ r ≤ 1) (hP : N_hP v r k i) (h : S_x mem b v) : S_x (R_ap mem b r k i) b (N_qv v r k i) ∧ R_pn mem b r k i = N_qn v r k i := by
  have hS := hO.1.S
  have hf := S_x_f hS h
  have hi := N_hP_6 hS hP
  have hpk := N_pk_in (r := r) hS hP.1 hi
  obtain ⟨hb, -, hw, hp⟩ := id h
  have hb' := S_b_ap mem b v t r k i hR hO ht hr hP hb
  have hiff := hf.2 r k i hr.1 hr.2 hP
  by_cases hk : v (N_pk v r k i).toNat = 1
  · have h0 : ¬ F_and (mem (b + 2 + 3) k.toNat) (F_pb r i) = 0 := fun q => hiff.mp q hk
    have e : R_ap mem b r k i = R_dp mem b := if_neg h0
    have e2 : N_qv v r k i = ja_rs v 18 (v 18 + 1) := if_pos hk
    rw [e, e2] at hb' ⊢
    refine ⟨S_x_dp hS hb' h, ?_⟩
    unfold R_pn N_qn
    rw [if_neg h0, if_pos hk]
  · have h0 : F_and (mem (b + 2 + 3) k.toNat) (F_pb r i) = 0 := hiff.mpr hk
    obtain ⟨hwO, -, hws⟩ := N_qw_O (r := r) hO ht hP.1 hi
    have hB : N_hB (N_qw v r k i) k := hws.hB.mpr hP.1
    have e : R_ap mem b r k i = R_rs (R_pk mem b r k i) b k := if_pos h0
    have e2 : N_qv v r k i = (N_rs 0 k 40 0 (N_qw v r k i)).2 := if_neg hk
    have hfr := N_rs_fr (a := 0) 40 0 (N_qw v r k i) hwO.1.S hB
    have hrow1 : ∀ q, q ≠ b → q ≠ b + 5 → R_pk mem b r k i q = mem q := fun q q0 q5 => by
      unfold R_pk
      rw [F_ap_o (by omega), R_so_o q0]
    have hwj : ∀ j, j ≠ 10 → j ≠ (N_pk v r k i).toNat → N_qw v r k i j = v j := fun j j10 jp => by
      unfold N_qw
      rw [ja_rs_n jp, N_be_n j10]
    have hs1 : ∀ j, j < 9 → R_pk mem b r k i (b + 1) j = N_qw v r k i j := fun j hj => by
      rw [hrow1 (b + 1) (by omega) (by omega), hws j hj]
      exact hb.1 j hj
    have hf1 : S_f (R_pk mem b r k i) b (N_qw v r k i) := by
      have g0 : S_f (R_so mem b) b v := S_f_cg hS (fun q q1 q2 => R_so_o (by omega)) (fun _ _ => rfl) hf
      have g1 := F_ap_N hS hr hP g0
      have hS1 : N_S (ja_rs v (N_pk v r k i).toNat 1) := (N_ss.rf.rs (by omega) : N_ss v (ja_rs v (N_pk v r k i).toNat 1)).S hS
      refine S_f_cg hS1 (fun _ _ _ => rfl) (fun j hj => ?_) g1
      unfold N_qw
      by_cases hq : j = (N_pk v r k i).toNat
      · rw [hq, ja_rs_s, ja_rs_s]
      · rw [ja_rs_n hq, ja_rs_n hq, N_be_n (by omega)]
    have hSO : ja_SO (R_pk mem b r k i) (b + 1) := (R_pk_RO hR).1
    obtain ⟨r1, r2⟩ := R_rs_N hSO hwO.1 hs1 hB hf1
    have hss2 : N_ss v (N_rs 0 k 40 0 (N_qw v r k i)).2 := hws.tr hfr.ss
    have hrow2 : ∀ q, q ≠ b → q ≠ b + 3 → q ≠ b + 5 → R_rs (R_pk mem b r k i) b k q = mem q := fun q q0 q3 q5 => (R_rs_o q3).trans (hrow1 q q0 q5)
    rw [e, e2] at hb' ⊢
    refine ⟨⟨hb', fun _ => ⟨(hss2.S hS).c6, r1⟩, ?_, ?_⟩, ?_⟩
    · exact S_w_cg (fun q q1 q2 => hrow2 q (by omega) (by omega) (by omega)) (fun j hj => by rw [hfr.1 j (by omega), hwj j (by omega) (by omega)]) hw
    · exact S_p_cg (fun j _ => by rw [hrow2 _ (by omega) (by omega) (by omega)]) (hrow2 _ (by omega) (by omega) (by omega)) (hrow2 _ (by omega) (by omega) (by omega)) (fun j hj => by rw [hfr.1 j (by omega), hwj j (by omega) (by omega)]) hp
    · unfold R_pn N_qn
      rw [if_pos h0, if_neg hk, r2]
-- its laws
theorem S_x_cg : Y_cg S_x := by
  intro mem mem' b v v' hm hv h
  obtain ⟨hb, hf, hw, hp⟩ := h
  have e0 := hm b (by omega) (by omega)
  refine ⟨S_b_cg mem mem' b v v' hm hv hb, fun q => ?_, S_w_cg (fun q q1 q2 => hm q (by omega) (by omega)) (fun j hj => hv j (by omega) (by omega) (by omega)) hw, S_p_cg (fun j _ => by rw [hm _ (by omega) (by omega)]) (hm _ (by omega) (by omega)) (hm _ (by omega) (by omega)) (fun j hj => hv j (by omega) (by omega) (by omega)) hp⟩
  rw [e0] at q
  obtain ⟨h6, hf2⟩ := hf q
  refine ⟨?_, S_f_c6 h6 (fun c j c1 c2 _ => by rw [hm _ (by omega) (by omega)]) (hv 3 (by omega) (by omega) (by omega)) (hv 4 (by omega) (by omega) (by omega)) (fun j j1 j2 => hv j (by omega) (by omega) (by omega)) hf2⟩
  unfold C6
  rw [hv 3 (by omega) (by omega) (by omega), hv 4 (by omega) (by omega) (by omega)]
  exact h6
theorem S_x_cy : S_cy S_x := by
  intro mem mem' b o v t hR he h
  obtain ⟨hb, hf, hw, hp⟩ := h
  have hb' := S_b_cy mem mem' b o v t hR he hb
  obtain ⟨-, e3, ⟨e62, e63⟩, e7, ⟨e91, e92, e94, e96⟩, -, -, e12, e14, -, -, -, e07, -⟩ := he
  obtain ⟨w1, w2, w3, w4, w5, w6⟩ := hw
  obtain ⟨p1, p2, p3⟩ := hp
  refine ⟨hb', fun q => ?_, ?_, ?_⟩
  · rw [e07] at q
    exact ⟨(hf q).1, S_f_c6 (hf q).1 e3 rfl rfl (fun _ _ _ => rfl) (hf q).2⟩
  · unfold S_w
    rw [e62, e63]
    exact ⟨w1, w2, w3, w4, fun i hi => (e7 7 _ (by omega) (by omega) (by omega)).trans (w5 i hi), fun j hj => (e7 8 j (by omega) (by omega) (by omega)).trans (w6 j hj)⟩
  · unfold S_p
    rw [e91, e92, e94, e96, e14 0 (by omega), e14 1 (by omega), e14 2 (by omega), e14 3 (by omega), e14 4 (by omega), e14 5 (by omega), e14 6 (by omega), e14 7 (by omega), e14 8 (by omega)]
    exact ⟨p1, fun i i1 i2 => (e12 _ (by omega)).trans (p2 i i1 i2), p3⟩
theorem S_x_up {mem : ja_M} {b : Nat} {v : Nat → Int} {j : Nat} {z : Int} (hj : j < 9) (hf' : ja_up mem (b + 1) j z b 7 = 1 → C6 (ja_rs v j z) ∧ S_f (ja_up mem (b + 1) j z) b (ja_rs v j z)) (h : S_x mem b v) : S_x (ja_up mem (b + 1) j z) b (ja_rs v j z) := by
  obtain ⟨hb, hf, hw, hp⟩ := h
  exact ⟨S_b_up hj hb, hf', S_w_cg (fun q q1 q2 => ja_up_row (by omega)) (fun i hi => ja_rs_n (by omega)) hw, S_p_cg (fun i _ => ja_up_a (by omega)) (ja_up_row (by omega)) (ja_up_row (by omega)) (fun i hi => ja_rs_n (by omega)) hp⟩
theorem N_pl_f {a : Nat → Int} {t : Int} (h : N_O a t) {j : Nat} (hj : j < 9 ∨ j = 24 ∨ (30 ≤ j ∧ j < 2054) ∨ 2372 ≤ j) : N_pl a j = a j := by
  have e2 : N_t2 a j = a j := by
    unfold N_t2
    split
    · rename_i hc
      rw [ja_rs_n (by omega)]
      exact (N_tk_O h hc.2).2.2.2 j (by omega)
    · rfl
  have hC := (N_t2_O h).1.1.C
  unfold N_pl
  split
  · unfold N_t3
    split
    · rw [ja_rs_n (by omega), ja_rs_n (by omega), ja_rs_n (by omega)]
      exact e2
    · exact e2
  · rfl
theorem S_x_pl : Y_pl S_x := by
  intro mem b v t hR hO ht h
  have hS := hO.1.S
  have hf := S_x_f hS h
  obtain ⟨hb, -, hw, hp⟩ := id h
  refine ⟨S_b_pl mem b v t hR hO ht hb, fun _ => ⟨?_, S_f_c6 hS.c6 (fun c j c1 c2 _ => by rw [R_pl_o (by omega)]) (N_pl_f hO (by omega)) (N_pl_f hO (by omega)) (fun j j1 j2 => N_pl_f hO (by omega)) hf⟩, S_w_cg (fun q q1 q2 => R_pl_o (by omega)) (fun j hj => N_pl_f hO (by omega)) hw, S_p_pl hO hb hf hw hp⟩
  unfold C6
  rw [N_pl_f hO (by omega), N_pl_f hO (by omega)]
  exact hS.c6
theorem S_x_tm : Y_tm S_x := by
  intro mem b v h
  obtain ⟨hb, hf, hw, hp⟩ := h
  refine ⟨S_b_tm mem b v hb, fun q => ?_, S_w_cg (fun q q1 q2 => ja_up_row (by omega)) (fun i hi => ja_rs_n (by omega)) hw, S_p_cg (fun i _ => ja_up_a (by omega)) (ja_up_row (by omega)) (ja_up_row (by omega)) (fun i hi => ja_rs_n (by omega)) hp⟩
  rw [ja_up_j (by omega)] at q
  obtain ⟨h6, hf2⟩ := hf q
  refine ⟨?_, S_f_c6 h6 (fun c j c1 c2 _ => ja_up_a (by omega)) (ja_rs_n (by omega)) (ja_rs_n (by omega)) (fun j j1 j2 => ja_rs_n (by omega)) hf2⟩
  unfold C6
  rw [ja_rs_n (by omega), ja_rs_n (by omega)]
  exact h6
theorem S_x_in : S_in S_x := by
  intro mem b h
  have z : ∀ c j, c < 20 → c ≠ 1 → mem (b + c) j = 0 := fun c j h0 h1 => h.2 _ _ (by omega) (by omega) (by omega)
  have z0 : ∀ j, mem b j = 0 := fun j => h.2 _ _ (by omega) (by omega) (by omega)
  have v0 : ∀ j, 9 ≤ j → j ≠ 10 → N_v0 j = 0 := fun j a c => N_v0_z a c
  refine ⟨S_b_in mem b h, fun q => ?_, ?_, ?_⟩
  · rw [z0] at q
    exact absurd q (by decide)
  · unfold S_w
    rw [z 6 2 (by omega) (by omega), z 6 3 (by omega) (by omega), v0 24 (by omega) (by omega)]
    exact ⟨rfl, by omega, by omega, fun _ => rfl, fun i hi => by omega, fun j hj => by omega⟩
  · unfold S_p
    rw [z 9 1 (by omega) (by omega), z 9 2 (by omega) (by omega), z 9 4 (by omega) (by omega), z 9 6 (by omega) (by omega), v0 22 (by omega) (by omega), v0 23 (by omega) (by omega), v0 12 (by omega) (by omega), v0 11 (by omega) (by omega), v0 19 (by omega) (by omega), v0 20 (by omega) (by omega), v0 21 (by omega) (by omega), v0 15 (by omega) (by omega), v0 16 (by omega) (by omega), v0 17 (by omega) (by omega), v0 18 (by omega) (by omega), v0 13 (by omega) (by omega), v0 14 (by omega) (by omega), z 14 0 (by omega) (by omega), z 14 1 (by omega) (by omega), z 14 2 (by omega) (by omega), z 14 3 (by omega) (by omega), z 14 4 (by omega) (by omega), z 14 5 (by omega) (by omega), z 14 6 (by omega) (by omega), z 14 7 (by omega) (by omega), z 14 8 (by omega) (by omega)]
    exact ⟨⟨rfl, rfl, rfl, rfl⟩, fun i _ hi => by omega, rfl, rfl, rfl, rfl, rfl, rfl, rfl, rfl, rfl⟩
theorem S_x_ok : Y_ok S_x := ⟨fun _ _ _ h => h.1, S_x_cg, S_x_cy, fun mem b v j z hj h7 _ h => S_x_up (by omega) (fun q => by rw [ja_up_a (by omega), h7] at q; exact absurd q (by decide)) h, fun mem b v j z h6 h9 h => S_x_up h9 (fun q => by
  rw [ja_up_a (by omega)] at q
  obtain ⟨c6, hf2⟩ := h.2.1 q
  refine ⟨?_, S_f_c6 c6 (fun c i c1 c2 _ => ja_up_a (by omega)) (ja_rs_n (by omega)) (ja_rs_n (by omega)) (fun i i1 i2 => ja_rs_n (by omega)) hf2⟩
  unfold C6
  rw [ja_rs_n (by omega), ja_rs_n (by omega)]
  exact c6) h, fun mem b v t x hR hO ht hx h => (S_x_afn hR hO ht hx h).1, fun mem b v t r k i hR hO ht hr hP h => (S_x_apn hR hO ht hr hP h).1, S_x_pl, S_x_tm, S_x_in⟩
abbrev S1 : S_T := Y_S S_x
theorem S1_ok : S_ok S1 := Y_all S_x_ok
end
section
-- THE ANSWERS
section
variable {mem : ja_M} {b : Nat} {v : Nat → Int} {t : Int}
theorem a_ki {k : Int} (h : S_p mem b v) : (if 1 ≤ k ∧ k ≤ 32 then (if mem (b + 9) 6 < k then -1004 else mem (b + 9 + 3) ((mem (b + 9) 6 - k) % 32).toNat) else -1001) = N_ki v k := by
  obtain ⟨⟨-, -, -, p6⟩, hk, -⟩ := h
  unfold N_ki
  rw [p6]
  by_cases h1 : 1 ≤ k ∧ k ≤ 32
  · rw [if_pos h1, if_pos h1]
    by_cases h2 : v 11 < k
    · rw [if_pos h2, if_pos h2]
    · rw [if_neg h2, if_neg h2]
      have := hk (k - 1).toNat (by omega) (by omega)
      rw [show (v 11 - 1 - (((k - 1).toNat : Nat) : Int)) % 32 = (v 11 - k) % 32 by omega, show 2310 + (k - 1).toNat = (2310 + k - 1).toNat by omega] at this
      exact this
  · rw [if_neg h1, if_neg h1]
theorem a_mi {r k i : Int} (hO : N_O v t) (hSO : ja_SO mem (b + 1)) (hP : N_hP v r k i) (h : S_x mem b v) : J_bc (F_lb mem (b + 1) r i &&& (F_kn mem (b + 1) (b + 2) k ^^^ (-1))) = N_mi v r k i (N_cs v r).toNat := by
  have hS := hO.1.S
  have hs := h.1.1
  have har := N_ar_in hS
  have e3 := hs 3 (by omega)
  have e4 := hs 4 (by omega)
  rw [J_bc_ct]
  refine F_mi hSO hs (F_kn_K hS hs hP.1 (S_x_f hS h)) ⟨hP.2.1, ?_⟩ 64 ?_
  · have := hP.2.2
    unfold F_cn
    rw [e3, e4]
    omega
  · rw [e3, e4]
    unfold N_ar at har
    omega
theorem N_un_ct {x : Int64} {w : Nat → Int} {k : Int} (hK : K_b w k x) : ∀ n : Nat, (n : Int) ≤ N_ar w → N_un w (N_ar w * k) n = J_Z n x
  | 0, _ => rfl
  | n + 1, hn => by
    have ih := N_un_ct hK n (by omega)
    have hb := hK n (by omega)
    simp only [N_un]
    rw [ih]
    unfold J_Z
    rw [J_ct_s]
    by_cases hq : N_kn w (N_ar w * k + n)
    · rw [if_pos hq, hb.mpr hq]
      rfl
    · rw [if_neg hq]
      cases hx : J_b x n with
      | true => exact absurd (hb.mp hx) hq
      | false => rfl
theorem J_cm1 : ∀ e : Fin 32, J_c (-1) e.val = true := by decide +kernel
theorem a_ur {k : Int} (hO : N_O v t) (hSO : ja_SO mem (b + 1)) (hk : N_hB v k) (h : S_x mem b v) : J_bc ((ja_shl 1 (ja_cells mem (b + 1)) - 1) &&& (F_cp mem (b + 1) (-1) 37 (F_kn mem (b + 1) (b + 2) k) ^^^ (-1))) = N_ur v k := by
  have hS := hO.1.S
  have hs := h.1.1
  have har := N_ar_in hS
  obtain ⟨-, -, -, s3, s4, -⟩ := id hSO
  have hg := F_cp_S (p := -1) (a := 1) hSO hO.1 hs hk (S_x_f hS h) (fun r j r0 r1 j0 j1 => by
    have g := F_pe_in (r := r) (i := j) s3 s4 ⟨j0, j1⟩
    obtain ⟨e, he⟩ : ∃ e : Nat, F_pe r j = (e : Int) := ⟨(F_pe r j).toNat, by omega⟩
    rw [F_and_b he (by omega), J_cm1 ⟨e, by omega⟩]
    exact ⟨fun q => (by cases q), fun q => absurd (Or.inl (by decide)) q⟩)
  obtain ⟨⟨g1, -⟩, g2, -⟩ := hg
  unfold N_ur
  have hss := g1.ss
  have e1 := N_un_ct g2 (N_ar v).toNat (by rw [hss.ar]; omega)
  rw [hss.ar] at e1
  rw [e1, J_bc_ct, S_b_cells hs]
  have e2 : J_ct (J_b ((ja_shl 1 (N_ar v) - 1) &&& (F_cp mem (b + 1) (-1) 37 (F_kn mem (b + 1) (b + 2) k) ^^^ (-1)))) 64 = J_ct (J_b ((ja_shl 1 (N_ar v) - 1) &&& (F_cp mem (b + 1) (-1) 37 (F_kn mem (b + 1) (b + 2) k) ^^^ (-1)))) (N_ar v).toNat := by
    have := J_ct_tail (P := J_b ((ja_shl 1 (N_ar v) - 1) &&& (F_cp mem (b + 1) (-1) 37 (F_kn mem (b + 1) (b + 2) k) ^^^ (-1)))) (n := (N_ar v).toNat) (fun c hc => by
      rw [J_b_and, J_b_mask (k := (N_ar v).toNat) (by omega) (by omega), decide_eq_false (by omega), Bool.false_and]) (64 - (N_ar v).toNat)
    rw [show (N_ar v).toNat + (64 - (N_ar v).toNat) = 64 by omega] at this
    exact this
  rw [e2]
  unfold J_Z
  rw [J_ct_e (P := J_b ((ja_shl 1 (N_ar v) - 1) &&& (F_cp mem (b + 1) (-1) 37 (F_kn mem (b + 1) (b + 2) k) ^^^ (-1)))) (N_ar v).toNat (fun c hc => by
    rw [J_b_and, J_b_mask (k := (N_ar v).toNat) (by omega) (by omega), J_b_not, decide_eq_true (by omega : c < (N_ar v).toNat), decide_eq_true (by omega : c < 64), Bool.true_and, Bool.true_and])]
theorem a_tr {k : Int} (h : S_w mem b v) : (if 0 ≤ k ∧ k < mem (b + 6) 2 then (if -999 < mem (b + 6 + 2) k.toNat then mem (b + 6 + 2) k.toNat else -999) else -1001) = (if 0 ≤ k ∧ k ≤ v 24 - 1 then (if N_so v (v 24).toNat k.toNat < -999 then -999 else N_so v (v 24).toNat k.toNat) else -1001) := by
  obtain ⟨w1, w2, -, -, -, w6⟩ := h
  rw [w1]
  by_cases hk : 0 ≤ k ∧ k < v 24
  · rw [if_pos hk, if_pos (show 0 ≤ k ∧ k ≤ v 24 - 1 from ⟨hk.1, by omega⟩)]
    have := w6 k.toNat (by omega)
    rw [show b + 6 + 2 = b + 8 from rfl, this]
    split <;> split <;> omega
  · rw [if_neg hk, if_neg (fun q : 0 ≤ k ∧ k ≤ v 24 - 1 => hk ⟨q.1, by omega⟩)]
theorem a_lv (hO : N_O v t) (h : S_x mem b v) : R_lv mem b (mem (b + 9) 6) = if 999 < v 11 then 0 else N_lv v (v 11) := by
  have hC := hO.1.C
  obtain ⟨hb, -, -, ⟨-, -, -, p6⟩, -⟩ := id h
  rw [p6, R_lv_N hO.1 hb.1 (S_x_f hO.1.S h) ⟨by omega, by omega⟩]
  by_cases h9 : 999 < v 11
  · rw [if_pos h9, show v 11 = 1000 by omega]
    unfold N_lv
    rw [if_neg (by show ¬ (1000 : Int) < 1000; decide), Int.mul_zero]
  · rw [if_neg h9]
theorem a_tk {k : Int} (h : S_p mem b v) : (if 1 ≤ k ∧ k ≤ 3 then (if k = 3 then mem (b + 14) 2 else if k = 1 then mem (b + 14) 0 else mem (b + 14) 1) else -1001) = if 1 ≤ k ∧ k ≤ 3 then v (18 + k).toNat else -1001 := by
  obtain ⟨-, -, c0, c1, c2, -⟩ := h
  rw [c0, c1, c2]
  by_cases hk : 1 ≤ k ∧ k ≤ 3
  · rw [if_pos hk, if_pos hk]
    rcases (show k = 1 ∨ k = 2 ∨ k = 3 by omega) with rfl | rfl | rfl
    · rfl
    · rfl
    · rfl
  · rw [if_neg hk, if_neg hk]
theorem B_cd_gcd : ∀ (n k : Nat) (a c : Nat), c < 2 ^ n → 2 * n + 1 ≤ k → B_cd k (a : Int) (c : Int) = (Nat.gcd a c : Nat)
  | n, 0, a, c, _, hk => by omega
  | 0, k + 1, a, c, hc, _ => by
    have h0 : c = 0 := by
      rw [Nat.pow_zero] at hc
      omega
    subst h0
    simp only [B_cd]
    rw [if_pos (show ((0 : Nat) : Int) = 0 from rfl), Nat.gcd_zero_right]
  | n + 1, k + 1, a, c, hc, hk => by
    simp only [B_cd]
    by_cases h0 : (c : Int) = 0
    · have h1 : c = 0 := by omega
      subst h1
      rw [if_pos (show ((0 : Nat) : Int) = 0 from rfl), Nat.gcd_zero_right]
    · rw [if_neg h0]
      have e1 : ((a : Int) % (c : Int)) = ((a % c : Nat) : Int) := by omega
      have hg : Nat.gcd a c = Nat.gcd c (a % c) := by rw [Nat.gcd_comm a c, Nat.gcd_rec, Nat.gcd_comm]
      rw [e1, hg]
      obtain ⟨k2, rfl⟩ : ∃ k2, k = k2 + 1 := ⟨k - 1, by omega⟩
      simp only [B_cd]
      by_cases hr : ((a % c : Nat) : Int) = 0
      · have h1 : a % c = 0 := by omega
        rw [if_pos hr, h1, Nat.gcd_zero_right]
      · rw [if_neg hr]
        have hlt : a % c < c := Nat.mod_lt _ (by omega)
        have hp : 0 < a % c := by omega
        have e2 : ((c : Int) % ((a % c : Nat) : Int)) = ((c % (a % c) : Nat) : Int) := by
          generalize a % c = q
          omega
        have hg2 : Nat.gcd c (a % c) = Nat.gcd (a % c) (c % (a % c)) := by rw [Nat.gcd_comm c, Nat.gcd_rec, Nat.gcd_comm]
        rw [e2, hg2]
        refine B_cd_gcd n k2 _ _ ?_ (by omega)
        have hm : c % (a % c) < a % c := Nat.mod_lt _ hp
        have hd := Nat.div_add_mod c (a % c)
        have hq : 1 ≤ c / (a % c) := (Nat.le_div_iff_mul_le hp).mpr (by omega)
        have hmul : a % c * 1 ≤ a % c * (c / (a % c)) := Nat.mul_le_mul_left _ hq
        rw [Nat.pow_succ] at hc
        omega
theorem a_ls {y : Nat} {d : Int} (hO : N_O v t) (hd : 0 ≤ d ∧ d ≤ 1) (h : S_p mem (y + 1) v) : B_los mem y d = N_ls v d := by
  have hC := hO.1.C
  have h21 := hO.2.1.2.2.2.2.2.1
  obtain ⟨⟨-, -, -, p6⟩, -, -, -, c2, -⟩ := h
  unfold B_los N_ls
  rw [p6, c2]
  by_cases h1 : v 11 = 0
  · rw [if_pos h1, if_pos (show v 21 = 0 by omega)]
  · have hgcd := B_cd_gcd 10 64 (v 11).toNat (v 21).toNat (by omega) (by omega)
    rw [show (((v 11).toNat : Nat) : Int) = v 11 by omega, show (((v 21).toNat : Nat) : Int) = v 21 by omega] at hgcd
    rw [if_neg h1, hgcd]
    by_cases h2 : v 21 = 0
    · rw [if_pos h2, h2, show ((0 : Int).toNat) = 0 from rfl, Nat.gcd_zero_right]
      by_cases hd0 : d = 0
      · rw [if_pos hd0, if_pos hd0, Int.zero_ediv]
      · rw [if_neg hd0, if_neg hd0]
        by_cases hg : 1 < (((v 11).toNat : Nat) : Int)
        · rw [if_pos hg, show (((v 11).toNat : Nat) : Int) = v 11 by omega, Int.ediv_self (by omega)]
        · rw [if_neg hg, show v 11 = 1 by omega]
          rfl
    · rw [if_neg h2]
      have hpos : 0 < Nat.gcd (v 11).toNat (v 21).toNat := Nat.gcd_pos_of_pos_left _ (by omega)
      by_cases hg : 1 < ((Nat.gcd (v 11).toNat (v 21).toNat : Nat) : Int)
      · rw [if_pos hg]
      · rw [if_neg hg, show ((Nat.gcd (v 11).toNat (v 21).toNat : Nat) : Int) = 1 by omega]
end
-- what a tick does to the outputs and to the concealed ones, by the reference
theorem N_ti_12 {v : Nat → Int} {t : Int} (hO : N_O v t) (ht : t ≤ 900000) : N_to v = N_ti v 12 - v 12 := by
  have hOt := N_t1_O hO ht
  have e1 : N_t1 v 12 = v 12 := by
    unfold N_t1
    rw [ja_rs_n (by omega), (N_as_O hO ht).2 12 (by omega) (by omega)]
  have e2 : N_t2 (N_t1 v) 12 = N_t1 v 12 := by
    unfold N_t2
    split
    · rename_i hc
      rw [ja_rs_n (by omega)]
      exact (N_tk_O hOt hc.2).2.2.2 12 (by omega)
    · rfl
  unfold N_to N_ti N_pl
  rw [ja_rs_n (by omega)]
  by_cases hon : N_on (N_t1 v)
  · rw [if_pos hon]
    unfold N_t3
    by_cases hq : N_t2 (N_t1 v) 23 < N_t2 (N_t1 v) 22
    · rw [if_pos ⟨hon, hq⟩, if_pos hq, ja_rs_n (by omega), ja_rs_s, e2, e1]
      omega
    · rw [if_neg (fun q => hq q.2), if_neg hq, e2, e1]
      omega
  · rw [if_neg (fun q => hon q.1), if_neg hon, e1]
    omega
theorem N_ti_27 {v : Nat → Int} {t : Int} (hO : N_O v t) (ht : t ≤ 900000) : N_ti v 21 = v 21 + if N_ti v 27 = 3 then 1 else 0 := by
  have hOt := N_t1_O hO ht
  have e1 : N_t1 v 21 = v 21 := by
    unfold N_t1
    rw [ja_rs_n (by omega), (N_as_O hO ht).2 21 (by omega) (by omega)]
  have e27 : N_t1 v 27 = 0 := by
    unfold N_t1
    rw [ja_rs_s]
  have key : N_t2 (N_t1 v) 21 = v 21 + if N_t2 (N_t1 v) 27 = 3 then 1 else 0 := by
    unfold N_t2
    by_cases hc : N_t1 v 23 = N_t1 v 22 ∧ N_t1 v 11 ≤ 999
    · rw [if_pos hc, ja_rs_s, ja_rs_n (by omega), N_tk_e _ (by omega) (by omega), (N_tu_R hOt hc.2).2.1 21 (by omega), e1]
      have hk := N_tk_kd hOt hc.2 0 (by omega)
      rw [if_pos rfl, Nat.add_zero] at hk
      rw [hk]
      have hin := @N_kd_in (N_t1 v) (N_t1 v 11)
      by_cases h3 : N_kd (N_t1 v) (N_t1 v 11) = 3
      · rw [if_pos h3, if_pos (by omega)]
      · rw [if_neg h3, if_neg (by omega)]
    · rw [if_neg hc, e27, e1, if_neg (by decide)]
      omega
  have t3 : ∀ j, j = 21 ∨ j = 27 → N_t3 (N_t2 (N_t1 v)) j = N_t2 (N_t1 v) j := fun j hj => by
    have hC := (N_t2_O hOt).1.1.C
    unfold N_t3
    split
    · rw [ja_rs_n (by omega), ja_rs_n (by omega), ja_rs_n (by omega)]
    · rfl
  unfold N_ti N_pl
  rw [ja_rs_n (by omega), ja_rs_n (by omega)]
  by_cases hon : N_on (N_t1 v)
  · rw [if_pos hon, t3 21 (by omega), t3 27 (by omega)]
    exact key
  · rw [if_neg hon, e27, e1, if_neg (by decide)]
    omega
theorem N_at_v {v : Nat → Int} {t : Int} (hO : N_O v t) : ∀ k : Nat, t + k ≤ 900001 → N_at v k = N_ad v k 12 - v 12
  | 0, _ => by
    simp only [N_at, N_ad]
    omega
  | k + 1, hk => by
    have ih := N_at_v hO k (by omega)
    have h := N_ti_12 (N_ad_O hO k (by omega)) (by omega)
    simp only [N_at, N_ad]
    omega
theorem N_ag_v {v : Nat → Int} {t : Int} (hO : N_O v t) : ∀ k : Nat, t + k ≤ 900001 → N_ag v k = N_ad v k 21 - v 21
  | 0, _ => by
    simp only [N_ag, N_ad]
    omega
  | k + 1, hk => by
    have ih := N_ag_v hO k (by omega)
    have h := N_ti_27 (N_ad_O hO k (by omega)) (by omega)
    simp only [N_ag, N_ad]
    rw [h, ih]
    omega
section
variable {mem : ja_M} {b : Nat} {v : Nat → Int} {t : Int}
theorem a_adv (hR : ja_RO mem b t) (hO : N_O v t) (h : S1 mem b v) (k : Nat) (hk : t + k ≤ 900001) : B_adv mem b k (b + 9) 4 - mem (b + 9) 4 = N_at v k := by
  have h2 := S_adv S1_ok.2.2.2.2.2.2.2.1 hR hO h k hk
  rw [h2.1.2.2.2.1.2.2.1, h.1.2.2.2.1.2.2.1, N_at_v hO k hk]
theorem a_ag (hR : ja_RO mem b t) (hO : N_O v t) (h : S1 mem b v) (k : Nat) (hk : t + k ≤ 900001) : B_adv mem b k (b + 14) 2 - mem (b + 14) 2 = N_ag v k := by
  have h2 := S_adv S1_ok.2.2.2.2.2.2.2.1 hR hO h k hk
  rw [h2.1.2.2.2.2.2.2.2.1, h.1.2.2.2.2.2.2.2.1, N_ag_v hO k hk]
theorem a_gap {c : Int} : ∀ (r i : Nat) (mem : ja_M) (v : Nat → Int) (t : Int), ja_RO mem b t → N_O v t → t + r ≤ 900001 → S1 mem b v → mem (b + 14) 2 = c → (B_gap b c r i mem).1 = N_xg r i v
  | 0, _, _, _, _, _, _, _, _, _ => rfl
  | r + 1, i, mem, v, t, hR, hO, ht, h, hc => by
    have h2 := S1_ok.2.2.2.2.2.2.2.1 mem b v t hR hO (by omega) h
    have e := N_ti_27 hO (by omega)
    have e1 := h2.1.2.2.2.2.2.2.2.1
    have e0 := h.1.2.2.2.2.2.2.2.1
    simp only [B_gap, N_xg]
    by_cases hq : N_ti v 27 = 3
    · rw [if_pos hq] at e ⊢
      rw [if_pos (by omega)]
    · rw [if_neg hq] at e ⊢
      rw [if_neg (by omega)]
      exact a_gap r (i + 1) _ _ (t + 1) (R_tk_RO hR (by omega)) (N_ti_O hO (by omega)) (by omega) h2 (by omega)
theorem a_fra {x : Int} : ∀ (r i : Nat) (mem : ja_M) (v : Nat → Int) (t : Int), ja_RO mem b t → N_O v t → t + r ≤ 900001 → S1 mem b v → (B_fra b x r i mem).1 = N_xf x r i v
  | 0, _, _, _, _, _, _, _, _ => rfl
  | r + 1, i, mem, v, t, hR, hO, ht, h => by
    have h2 := S1_ok.2.2.2.2.2.2.2.1 mem b v t hR hO (by omega) h
    have e1 := h2.1.2.2.2.1.2.2.2
    simp only [B_fra, N_xf]
    rw [e1]
    by_cases hq : x < N_ti v 11
    · rw [if_pos hq, if_pos hq]
    · rw [if_neg hq, if_neg hq]
      exact a_fra r (i + 1) _ _ (t + 1) (R_tk_RO hR (by omega)) (N_ti_O hO (by omega)) (by omega) h2
/-- the forecast is tied too -/
theorem a_cp {y : Nat} (hR : ja_RO mem (y + 1) t) (h : S1 mem (y + 1) v) : S1 (R_cp mem (y + 21) (y + 1)) (y + 21) v := S1_ok.2.1 mem _ (y + 21) (y + 1) v t hR (R_cp_eq (by omega) hR.2.2.2.1.1) h
end
end
