section
-- the law: its script, its world, its end
/-- the law's script: L ints xs at the cell b, out of the way -/
def ja_X (C : ja_C) (b L : Nat) (xs : Nat → Int32) : Prop := match C with
  | (p, l, e, R, s, m, args, below, meth, c, D, cA, B, nL, Q) => va_X b L xs s s.heap ∧ b < s.heap.size ∧ b < B
section
variable {C : ja_C} {own : String} {cc : ByteArray} {nl : Nat} {rm : Room} {cells slots n : Nat} {lay : ja_Y} {mem : ja_M} {pc : Nat} {ls : List (Option Value)} {st : List Value}
theorem r_slen (F : ja_F C own cc nl rm) {b L : Nat} {xs : Nat → Int32} (X : ja_X C b L xs) (d : decode cc pc = .ok (.arraylength, 1)) {pc' : Nat} (hpc : pc + 1 = pc') (k : ja_W C cells slots lay mem n pc' ls (.int (ja_I (L : Int)) :: st)) : ja_W C cells slots lay mem n pc ls (.ref b :: st) := by
  subst hpc
  obtain ⟨p, l, e, R, s, m, args, below, meth, c, D, cA, B, nL, Q⟩ := C
  obtain ⟨hnl, hrm, hx, hb, hml, hown, hts, ⟨hK, hAO, hNw⟩, hlk, hB⟩ := F
  subst hnl; subst hrm
  obtain ⟨x1, x2, x3⟩ := X
  intro H locs lsA hH hS hl
  exact va_slen hx hb x1 x2 (Nat.not_le.mpr x3) hS d (k H locs lsA hH hS hl)
theorem r_sld (F : ja_F C own cc nl rm) {b L : Nat} {xs : Nat → Int32} (X : ja_X C b L xs) {z : Int} (h0 : 0 ≤ z) (h1 : z < L) (hL : L ≤ 2147483648) (d : decode cc pc = .ok (.iaload, 1)) {pc' : Nat} (hpc : pc + 1 = pc') (k : ja_W C cells slots lay mem n pc' ls (.int (ja_I (xs z.toNat).toInt) :: st)) : ja_W C cells slots lay mem n pc ls (.int (ja_I z) :: .ref b :: st) := by
  subst hpc
  obtain ⟨p, l, e, R, s, m, args, below, meth, c, D, cA, B, nL, Q⟩ := C
  obtain ⟨hnl, hrm, hx, hb, hml, hown, hts, ⟨hK, hAO, hNw⟩, hlk, hB⟩ := F
  subst hnl; subst hrm
  obtain ⟨x1, x2, x3⟩ := X
  intro H locs lsA hH hS hl
  have hk := k H locs lsA hH hS hl
  rw [ja_of, ← ja_clamp (z := z) ⟨by omega, by omega⟩] at hk
  exact va_sld hx hb x1 x2 (Nat.not_le.mpr x3) hS (ja_vpin h0 h1 hL) d hk
/-- two equal numbers: the branch is taken -/
theorem r_same (F : ja_F C own cc nl rm) {a b : Int} (h : a = b) {off : Int} {tgt : Nat} (d : decode cc pc = .ok (.if_icmp .eq off, 3)) (ht : (pc : Int) + off = (tgt : Int)) (k : ja_W C cells slots lay mem n tgt ls st) : ja_W C cells slots lay mem n pc ls (.int (ja_I b) :: .int (ja_I a) :: st) := by
  obtain ⟨p, l, e, R, s, m, args, below, meth, c, D, cA, B, nL, Q⟩ := C
  obtain ⟨hnl, hrm, hx, hb, hml, hown, hts, ⟨hK, hAO, hNw⟩, hlk, hB⟩ := F
  subst hnl; subst hrm
  intro H locs lsA hH hS hl
  exact lv_icmp_eq hx hb d ht (fun _ => k H locs lsA hH hS hl) (fun q => absurd (by rw [h]) q)
end
theorem ja_Nw {w : Cond} {A : Array Value} {U : State} (hn : ja_isN w = true) (h : w.before A U = true) : va_Nw w U := by
  cases w <;> first | exact va_Nw.of rfl h | (simp [ja_isN] at hn)
theorem ja_tb {w : Cond} (h : w ∈ lw_tbg) : w ∈ lw_tbl := (List.mem_filter.mp h).1
theorem ja_arrc {s : State} {args : Array Value} {ty : FieldType} (h : (Cond.arrayClass ty).before args s = true) : ∃ c, ArrOfT s c ty ∧ s.vm.findClass ("[" ++ ty.toString) = some c := by
  obtain ⟨c, k, comp, h1, h2, h3⟩ := Cond.arrayClass_spec h
  exact ⟨c, fun n z => ⟨fun k h => (by cases h), k, h2, comp, h3⟩, h1⟩
theorem ja_arro {s : State} {Cn : String} (h : va_AO Cn s) : ∃ c, ArrOfT s c (.object Cn) ∧ va_RA s c (.object Cn) := by
  obtain ⟨comp, c, k, h1, h2, h3, h4, h5⟩ := Cond.arrayOver_spec h
  exact ⟨c, fun n z => ⟨fun k h => (by cases h), k, h3, comp, h4⟩, k, comp, h3, h4, h1, h5⟩
/-- a world for the law -/
theorem ja_world {s : State} {args : Array Value} (hts : ∀ w ∈ lw_tbl, w.before args s = true) : ∃ (D : va_G) (cA : Nat → ClassId), ja_K D cA s := by
  have hg : ∀ w ∈ lw_tbg, w.before args s = true := fun w h => hts w (ja_tb h)
  obtain ⟨c0, i0, k0⟩ := u_known (C := RX0) (T := TX0) (N := 8) hg u_X0 (hg _ kI_X0)
  obtain ⟨c1, i1, k1⟩ := u_known (C := RX1) (T := TX1) (N := 5) hg u_X1 (hg _ kI_X1)
  obtain ⟨c2, i2, k2⟩ := u_known (C := RX2) (T := TX2) (N := 9) hg u_X2 (hg _ kI_X2)
  obtain ⟨c3, i3, k3⟩ := u_known (C := RX3) (T := TX3) (N := 3) hg u_X3 (hg _ kI_X3)
  obtain ⟨c4, i4, k4⟩ := u_known (C := RX4) (T := TX4) (N := 8) hg u_X4 (hg _ kI_X4)
  obtain ⟨c5, i5, k5⟩ := u_known (C := RX5) (T := TX5) (N := 9) hg u_X5 (hg _ kI_X5)
  obtain ⟨c6, i6, k6⟩ := u_known (C := RX6) (T := TX6) (N := 9) hg u_X6 (hg _ kI_X6)
  obtain ⟨c7, i7, k7⟩ := u_known (C := RX7) (T := TX7) (N := 4) hg u_X7 (hg _ kI_X7)
  obtain ⟨c8, i8, k8⟩ := u_known (C := RX8) (T := TX8) (N := 5) hg u_X8 (hg _ kI_X8)
  obtain ⟨c9, i9, k9⟩ := u_known (C := RX9) (T := TX9) (N := 11) hg u_X9 (hg _ kI_X9)
  obtain ⟨ai, a0, a1⟩ := ja_arrc (hg _ a_int)
  obtain ⟨al, b0, b1⟩ := ja_arrc (hg _ a_long)
  obtain ⟨ab, d0, d1⟩ := ja_arrc (hg _ a_boolean)
  have hAO : va_AO RX5 s := va_AO.of (hts _ kO_X5)
  obtain ⟨ao, e0, e1⟩ := ja_arro hAO
  refine ⟨(fun k => match k with | 0 => c0 | 1 => c1 | 2 => c2 | 3 => c3 | 4 => c4 | 5 => c5 | 6 => c6 | 7 => c7 | 8 => c8 | _ => c9, fun k => match k with | 0 => i0 | 1 => i1 | 2 => i2 | 3 => i3 | 4 => i4 | 5 => i5 | 6 => i6 | 7 => i7 | 8 => i8 | _ => i9), fun k => match k with | 0 => ai | 1 => al | 2 => ab | _ => ao, ⟨fun k q hq => ?_, fun k q hq => ?_⟩, hAO, fun w hw hn => ja_Nw hn (hts w hw)⟩
  · match k, hq with
    | 0, hq => cases hq; exact k0
    | 1, hq => cases hq; exact k1
    | 2, hq => cases hq; exact k2
    | 3, hq => cases hq; exact k3
    | 4, hq => cases hq; exact k4
    | 5, hq => cases hq; exact k5
    | 6, hq => cases hq; exact k6
    | 7, hq => cases hq; exact k7
    | 8, hq => cases hq; exact k8
    | 9, hq => cases hq; exact k9
    | k + 10, hq => simp [vwCl] at hq
  · match k, hq with
    | 0, hq => cases hq; exact ⟨a0, a1⟩
    | 1, hq => cases hq; exact ⟨b0, b1⟩
    | 2, hq => cases hq; exact ⟨d0, d1⟩
    | 3, hq => cases hq; exact ⟨e0, e1⟩
    | k + 4, hq => simp [ja_tys] at hq
end
section
-- a receiver's methods leave all rows but the receiver's own
theorem P_pts_oo {mem : ja_M} {a q k : Nat} {h : Nat → Int} (hq : q ≠ a ∧ q ≠ a + 1) : P_pts mem a h k q = mem q := P_pts_o hq k
theorem P_cpr_o {mem : ja_M} {a q : Nat} {z : Int} (h : q ≠ a ∧ q ≠ a + 1) : P_cpr mem a z q = mem q := by
  unfold P_cpr
  rw [P_pts_oo h, P_pts_oo h]
theorem P_str_o {mem : ja_M} {a q : Nat} {z : Int} (h : q ≠ a ∧ q ≠ a + 1) : P_str mem a z q = mem q := by
  unfold P_str
  rw [P_pts_oo h, P_pts_oo h, P_pts_oo h]
theorem P_con_o {mem : ja_M} {a q : Nat} {z g : Int} (h : q ≠ a ∧ q ≠ a + 1) (h4 : q ≠ a + 4) : P_con mem a z g q = mem q := by
  unfold P_con
  rw [P_pts_oo h, ja_rw_n h4]
theorem R_lw_o {mem : ja_M} {b q : Nat} {x : Int} (h : q ≠ b + 9 + 4) : R_lw mem b x q = mem q := by
  unfold R_lw
  exact ja_rw_n h
theorem R_pkn_o {mem : ja_M} {b q : Nat} {x : Int} (h : q ≠ b + 9 ∧ q ≠ b + 9 + 1) (h4 : q ≠ b + 9 + 4) (hc : q ≠ b + 14) : R_pkn mem b x q = mem q := by
  unfold R_pkn
  split
  · rw [P_cpr_o h, ja_up_row hc, R_lw_o h4]
  · split
    · rw [P_str_o h, ja_up_row hc, R_lw_o h4]
    · rw [P_pts_oo h, R_lw_o h4]
theorem R_tf_o {mem : ja_M} {b q : Nat} {x : Int} (h : q < b + 9 ∨ b + 15 ≤ q) : R_tf mem b x q = mem q := by
  unfold R_tf
  split
  · rw [P_con_o ⟨by omega, by omega⟩ (by omega), P_beg_o ⟨by omega, by omega⟩, C_co_o (by omega)]
  · rw [R_pkn_o ⟨by omega, by omega⟩ (by omega) (by omega), P_beg_o ⟨by omega, by omega⟩, C_kn_o (by omega)]
theorem R_pl_o {mem : ja_M} {b q : Nat} (h : q < b + 9 ∨ b + 15 ≤ q) : R_pl mem b q = mem q := by
  unfold R_pl
  split
  · rw [P_out_o ⟨by omega, by omega⟩]
    split
    · exact R_tf_o h
    · rfl
  · rfl
theorem R_af_f {mem : ja_M} {b q : Nat} {x : Int} (h : q < b ∨ b + 15 ≤ q) : R_af mem b x q = mem q := by
  unfold R_af
  split
  · rw [R_rs_o (by omega), R_kn, F_ad_o ⟨by omega, by omega⟩, R_lt_o (by omega), R_ad_o ⟨by omega, by omega⟩]
  · unfold R_dp
    exact ja_up_row (by omega)
theorem R_ap_f {mem : ja_M} {b q : Nat} {r k i : Int} (h : q < b ∨ b + 15 ≤ q) : R_ap mem b r k i q = mem q := by
  unfold R_ap
  split
  · rw [R_rs_o (by omega), R_pk, F_ap_o (by omega), R_so_o (by omega)]
  · unfold R_dp
    exact ja_up_row (by omega)
theorem R_du_f {mem : ja_M} {b q : Nat} (h : q < b ∨ b + 15 ≤ q) : ∀ k, R_du mem b k q = mem q
  | 0 => rfl
  | k + 1 => by
    simp only [R_du]
    split
    · split
      · exact (R_af_f h).trans (R_du_f h k)
      · exact (R_ap_f h).trans (R_du_f h k)
    · exact R_du_f h k
theorem R_due_f {mem : ja_M} {b q : Nat} (h : q < b ∨ b + 20 ≤ q) : R_due mem b q = mem q := by
  unfold R_due
  rw [A_rem_o (by omega), R_du_f (by omega)]
theorem R_tk_f {mem : ja_M} {b q : Nat} (h : q < b ∨ b + 20 ≤ q) : R_tk mem b q = mem q := by
  unfold R_tk
  rw [ja_up_row (by omega), R_pl_o (by omega), R_due_f h]
theorem B_adv_f {mem : ja_M} {b q : Nat} (h : q < b ∨ b + 20 ≤ q) : ∀ k, B_adv mem b k q = mem q
  | 0 => rfl
  | k + 1 => (R_tk_f h).trans (B_adv_f h k)
theorem B_gap_f {b q : Nat} {c : Int} (h : q < b ∨ b + 20 ≤ q) : ∀ (r i : Nat) (m : ja_M), (B_gap b c r i m).2 q = m q
  | 0, _, _ => rfl
  | r + 1, i, m => by
    simp only [B_gap]
    split
    · exact R_tk_f h
    · exact (B_gap_f h r (i + 1) _).trans (R_tk_f h)
theorem B_fra_f {b q : Nat} {x : Int} (h : q < b ∨ b + 20 ≤ q) : ∀ (r i : Nat) (m : ja_M), (B_fra b x r i m).2 q = m q
  | 0, _, _ => rfl
  | r + 1, i, m => by
    simp only [B_fra]
    split
    · exact R_tk_f h
    · exact (B_fra_f h r (i + 1) _).trans (R_tk_f h)
theorem B_sc_f {mem : ja_M} {y q : Nat} (hH : ja_HO mem (y + 42)) (hA : ja_AO mem (y + 44)) (h : q < y + 16 ∨ (y + 21 ≤ q ∧ q < y + 42) ∨ y + 49 ≤ q) : (B_sc mem y).2 q = mem q := by
  have hr := (B_rd_all hH hA).2.2 q (by omega)
  unfold B_sc
  split
  · split
    · exact hr
    · split
      · exact hr
      · exact (A_all_o (by omega) _).trans hr
  · exact hr
end
section
-- THE FRESH STATE
theorem Z_shr (z : Int) : ja_shr (ja_L 0) z &&& 1 = 0 := by
  have e : ja_L 0 = 0 := rfl
  unfold ja_shr
  rw [e, Int64.zero_shiftRight, Int64.zero_and]
theorem Z_andn (x : Int64) : x &&& (x ^^^ (-1)) = 0 := by rw [Int64.xor_neg_one, Int64.and_not_self]
theorem Z_bc : J_bc 0 = 0 := by decide +kernel
theorem Z_and0 (z : Int) : F_and 0 z = 0 := by
  have e : ja_I 0 = 0 := rfl
  unfold F_and
  rw [e, Int32.zero_and]
  rfl
theorem Z_xor0 {z : Int} (h : ja_in z) : (ja_I z ^^^ ja_I 0).toInt = z := by
  have e : ja_I 0 = 0 := rfl
  rw [e, Int32.xor_zero, ja_toInt h]
/-- a class object y and a reference m, just made -/
def L_fr (lay : ja_Y) (mem : ja_M) (n y m : Nat) : Prop := m = y + 49 ∧ n = y + 58 ∧ ja_LB lay y (fun _ => none) ∧ ja_LM lay m ∧ ja_S0 mem (y + 1 + 1) ∧ ja_S0 mem (y + 21 + 1) ∧ (∀ q j, y ≤ q → q < y + 49 → q ≠ y + 1 + 1 → q ≠ y + 21 + 1 → mem q j = 0) ∧ mem (m + 1) = N_v0 ∧ ∀ q j, m ≤ q → q < m + 9 → q ≠ m + 1 → mem q j = 0
/-- a fresh receiver -/
def Z_R (mem : ja_M) (b : Nat) : Prop := ja_S0 mem (b + 1) ∧ ∀ q j, b ≤ q → q < b + 20 → q ≠ b + 1 → mem q j = 0
theorem L_fr.R {lay : ja_Y} {mem : ja_M} {n y m : Nat} (h : L_fr lay mem n y m) : Z_R mem (y + 1) := ⟨h.2.2.2.2.1, fun q j a b c => h.2.2.2.2.2.2.1 q j (by omega) (by omega) (by omega) (by omega)⟩
theorem L_fr.BO {lay : ja_Y} {mem : ja_M} {n y m : Nat} (h : L_fr lay mem n y m) : ja_BO mem y (fun _ => none) 0 := BO_0 h.2.2.2.2.1 h.2.2.2.2.2.1 h.2.2.2.2.2.2.1
theorem N_v0_z {j : Nat} (h : 9 ≤ j) (h10 : j ≠ 10) : N_v0 j = 0 := by
  unfold N_v0
  rw [if_neg h10, if_neg (by omega), if_neg (by omega), if_neg (by omega), if_neg (by omega), if_neg (by omega), if_neg (by omega), if_neg (by omega), if_neg (by omega), if_neg (by omega)]
theorem N_v0_R : N_R N_v0 := by
  intro j hj
  by_cases h : j < 30
  · have key : ∀ j : Fin 30, N_in j.val (N_v0 j.val) := by
      intro j
      match j with
      | ⟨0, _⟩ => exact (by decide : (4 : Int) ≤ 8 ∧ (8 : Int) ≤ 16)
      | ⟨1, _⟩ => exact (by decide : (2 : Int) ≤ 16 ∧ (16 : Int) ≤ 32)
      | ⟨2, _⟩ => exact (by decide : (1 : Int) ≤ 25 ∧ (25 : Int) ≤ 200)
      | ⟨3, _⟩ => exact (by decide : (2 : Int) ≤ 4 ∧ (4 : Int) ≤ 6)
      | ⟨4, _⟩ => exact (by decide : (2 : Int) ≤ 4 ∧ (4 : Int) ≤ 6)
      | ⟨5, _⟩ => exact (by decide : (0 : Int) ≤ 16 ∧ (16 : Int) ≤ 200)
      | ⟨6, _⟩ => exact (by decide : (1 : Int) ≤ 90 ∧ (90 : Int) ≤ 100)
      | ⟨7, _⟩ => exact (by decide : (0 : Int) ≤ 8 ∧ (8 : Int) ≤ 100)
      | ⟨8, _⟩ => exact (by decide : (0 : Int) ≤ 1 ∧ (1 : Int) ≤ 1)
      | ⟨9, _⟩ => exact (by decide : (0 : Int) ≤ 0 ∧ (0 : Int) ≤ 900002)
      | ⟨10, _⟩ => exact (by decide : (-1 : Int) ≤ -1 ∧ (-1 : Int) ≤ 900300)
      | ⟨11, _⟩ => exact (by decide : (0 : Int) ≤ 0 ∧ (0 : Int) ≤ 1000)
      | ⟨12, _⟩ => exact (by decide : (0 : Int) ≤ 0 ∧ (0 : Int) ≤ 900002)
      | ⟨13, _⟩ => exact (by decide : (0 : Int) ≤ 0 ∧ (0 : Int) ≤ 1000)
      | ⟨14, _⟩ => exact (by decide : (0 : Int) ≤ 0 ∧ (0 : Int) ≤ 1000)
      | ⟨15, _⟩ => exact trivial
      | ⟨16, _⟩ => exact trivial
      | ⟨17, _⟩ => exact trivial
      | ⟨18, _⟩ => exact trivial
      | ⟨19, _⟩ => exact trivial
      | ⟨20, _⟩ => exact trivial
      | ⟨21, _⟩ => exact (by decide : (0 : Int) ≤ 0 ∧ (0 : Int) ≤ 1000)
      | ⟨22, _⟩ => exact (by decide : (0 : Int) ≤ 0 ∧ (0 : Int) ≤ 24)
      | ⟨23, _⟩ => exact (by decide : (0 : Int) ≤ 0 ∧ (0 : Int) ≤ 24)
      | ⟨24, _⟩ => exact (by decide : (0 : Int) ≤ 0 ∧ (0 : Int) ≤ 16)
      | ⟨25, _⟩ => exact (by decide : (0 : Int) ≤ 0 ∧ (0 : Int) ≤ 24)
      | ⟨26, _⟩ => exact trivial
      | ⟨27, _⟩ => exact (by decide : (0 : Int) ≤ 0 ∧ (0 : Int) ≤ 3)
      | ⟨28, _⟩ => exact trivial
      | ⟨29, _⟩ => exact trivial
      | ⟨n + 30, hn⟩ => omega
    exact key ⟨j, h⟩
  · rw [N_v0_z (by omega) (by omega)]
    unfold N_in
    rw [if_neg h]
    split
    · omega
    · split
      · omega
      · split
        · omega
        · split
          · omega
          · split
            · omega
            · split
              · omega
              · omega
theorem N_v0_O : N_O N_v0 0 := by
  refine ⟨N_v0_R, ?_, fun j h0 h1 => ?_⟩
  · rw [N_v0_z (j := 9) (by omega) (by omega), N_v0_z (j := 11) (by omega) (by omega), N_v0_z (j := 12) (by omega) (by omega), N_v0_z (j := 13) (by omega) (by omega), N_v0_z (j := 14) (by omega) (by omega), N_v0_z (j := 21) (by omega) (by omega), N_v0_z (j := 22) (by omega) (by omega), N_v0_z (j := 23) (by omega) (by omega), show N_v0 10 = -1 from rfl]
    omega
  · rw [N_v0_z (j := 25) (by omega) (by omega)] at h1
    omega
-- known frames
theorem Z_st {mem : ja_M} {b : Nat} (h : Z_R mem b) (x : Int) : F_st mem (b + 1) (b + 2) x = 0 := by
  unfold F_st
  rw [h.2 (b + 2 + 2) _ (by omega) (by omega) (by omega), h.2 (b + 2 + 1) _ (by omega) (by omega) (by omega), if_pos (Z_shr _), if_pos (Z_shr _)]
theorem Z_kn (x : Int) (h : 0 ≤ x ∧ x ≤ 999) : ¬ N_kn N_v0 x := by
  intro q
  rcases q with q | q
  · omega
  · rw [N_v0_z (by omega) (by omega)] at q
    omega
-- without packets nothing is restored: the class
theorem Z_ln {mem : ja_M} {s : Nat} {r : Int} {x : Int64} : ∀ k, F_ln mem s 0 r x k = x
  | 0 => rfl
  | k + 1 => by
    simp only [F_ln]
    rw [Z_ln k]
    unfold F_wl
    rw [if_pos (Z_and0 _)]
theorem Z_cp {mem : ja_M} {s : Nat} {x : Int64} {p : Int} (h : F_rd mem s p x = x) : ∀ k, F_cp mem s p k x = x
  | 0 => rfl
  | k + 1 => by
    simp only [F_cp]
    rw [if_pos h]
theorem Z_rn {mem : ja_M} {b : Nat} {k : Int} (h : F_rd mem (b + 1) (mem (b + 2 + 3) k.toNat) (F_kn mem (b + 1) (b + 2) k) = F_kn mem (b + 1) (b + 2) k) : R_rn mem b k = 0 := by
  unfold R_rn F_re
  rw [Z_cp h, Z_andn, Z_bc]
theorem Z_rn0 {mem : ja_M} {b : Nat} {k : Int} (h : mem (b + 2 + 3) k.toNat = 0) : R_rn mem b k = 0 := by
  refine Z_rn ?_
  rw [h]
  unfold F_rd
  rw [Z_ln, Z_ln]
theorem Z_an {mem : ja_M} {b : Nat} (h : Z_R mem b) (x : Int) : R_an mem b x = 1 := by
  unfold R_an
  rw [if_pos (Z_st h x), Z_rn0]
  · rfl
  · rw [R_kn, F_ad_o ⟨by omega, by omega⟩, R_lt_o (by omega), R_ad_o ⟨by omega, by omega⟩]
    exact h.2 _ _ (by omega) (by omega) (by omega)
-- the reference
theorem Z_rr {v : Nat → Int} {r k : Int} (hS : N_S v) (hk : N_hB v k) (hp : ∀ j, 1030 ≤ j → j < 2054 → v j = 0) : ∀ j : Nat, j ≤ 6 → N_rr 0 v r k j = (0, v)
  | 0, _ => rfl
  | j + 1, hj => by
    have hpk := N_pk_in (r := r) (i := (j : Int)) hS hk ⟨by omega, by omega⟩
    simp only [N_rr]
    rw [Z_rr hS hk hp j (by omega)]
    rw [if_neg]
    intro q
    rcases q with q | q
    · exact q trivial
    · have q2 : v (N_pk v r k (j : Int)).toNat = 1 := q
      rw [hp _ (by omega) (by omega)] at q2
      omega
theorem Z_rs {v : Nat → Int} {k : Int} (hS : N_S v) (hk : N_hB v k) (hp : ∀ j, 1030 ≤ j → j < 2054 → v j = 0) : N_rs 0 k 40 0 v = (0, v) := by
  have s3 := hS.2.2.2.1
  have s4 := hS.2.2.2.2.1
  have h1 : N_rd 0 v k = (0, v) := by
    unfold N_rd
    rw [Z_rr hS hk hp _ (by omega)]
    dsimp only
    rw [Z_rr hS hk hp _ (by omega)]
    rfl
  simp only [N_rs]
  rw [h1]
  rfl
theorem Z_Nan {x : Int} (hx : 0 ≤ x ∧ x ≤ 999) : N_an N_v0 x = 1 := by
  have hO := N_aw_O N_v0_O (by omega) hx
  have hs := N_aw_ss N_v0_O (by omega) hx
  unfold N_an
  rw [if_neg (Z_kn x hx), Z_rs hO.1.S (hs.hB.mpr (N_blk N_v0_R.S hx))]
  · rfl
  · intro j h0 h1
    have hb := N_be_O N_v0_O (by omega)
    obtain ⟨r0, r1, r2⟩ := N_s0_R (N_a1_R hb.1 hx).1
    unfold N_aw N_se
    rw [ja_rs_n (by omega), ja_rs_n (by omega)]
    have e0 : N_s0 (N_a1 (N_be N_v0) x) j = N_a1 (N_be N_v0) x j := by
      unfold N_s0
      split
      · rw [ja_rs_n (by omega), N_sh_n 15 (by omega)]
      · rfl
    rw [e0, N_a1, ja_rs_n (by omega), ja_rs_n (by omega), N_be_n (by omega), N_v0_z (by omega) (by omega)]
end
section
-- lines of the fresh state: none lacks just one frame
def Z_zx (k : Int) : Int64 := ja_L 0 ||| (if 1000 - k * 16 < 64 then ja_shl (-1) (1000 - k * 16) else 0)
abbrev Z_4 : ja_M := fun _ _ => 4
set_option maxRecDepth 100000 in
theorem Z_all : ∀ (k : Fin 63) (i : Fin 4), (J_bc (F_lb Z_4 0 0 (i.val : Int) &&& (Z_zx (k.val : Int) ^^^ (-1))) = N_mi N_v0 0 (k.val : Int) (i.val : Int) 4 ∧ ¬ N_mi N_v0 0 (k.val : Int) (i.val : Int) 4 = 1) ∧ (J_bc (F_lb Z_4 0 1 (i.val : Int) &&& (Z_zx (k.val : Int) ^^^ (-1))) = N_mi N_v0 1 (k.val : Int) (i.val : Int) 4 ∧ ¬ N_mi N_v0 1 (k.val : Int) (i.val : Int) 4 = 1) := by decide +kernel
set_option maxRecDepth 100000 in
theorem Z_unr : ∀ (k : Fin 63), J_bc ((ja_shl 1 16 - 1) &&& (Z_zx (k.val : Int) ^^^ (-1))) = ((N_un N_v0 (16 * (k.val : Int)) 16 : Nat) : Int) := by decide +kernel
theorem Z_line {r k i : Int} (hr : 0 ≤ r ∧ r ≤ 1) (hk : 0 ≤ k ∧ k ≤ 62) (hi : 0 ≤ i ∧ i ≤ 3) : J_bc (F_lb Z_4 0 r i &&& (Z_zx k ^^^ (-1))) = N_mi N_v0 r k i 4 ∧ ¬ N_mi N_v0 r k i 4 = 1 := by
  obtain ⟨h0, h1⟩ := Z_all ⟨k.toNat, by omega⟩ ⟨i.toNat, by omega⟩
  rw [show ((k.toNat : Nat) : Int) = k by omega, show ((i.toNat : Nat) : Int) = i by omega] at h0 h1
  rcases (show r = 0 ∨ r = 1 by omega) with rfl | rfl
  · exact h0
  · exact h1
theorem F_lbc_c {cols i : Int} (h : cols = 4) : ∀ k, F_lbc cols i k = F_lbc 4 i k := fun k => by rw [h]
theorem Z_lb {mem : ja_M} {s : Nat} (h3 : mem s 3 = 4) (h4 : mem s 4 = 4) (r i : Int) : F_lb mem s r i = F_lb Z_4 0 r i := by
  unfold F_lb
  rw [h3, h4]
theorem Z_knx {mem : ja_M} {b : Nat} (h : Z_R mem b) (k : Int) : F_kn mem (b + 1) (b + 2) k = Z_zx k := by
  obtain ⟨-, -, -, s3, s4, -⟩ := h.1
  unfold F_kn F_bey Z_zx ja_cells
  rw [h.2 (b + 2 + 1) _ (by omega) (by omega) (by omega), s3, s4]
  rfl
theorem Z_wl {mem : ja_M} {s : Nat} {x : Int64} {p r i : Int} (h : ¬ J_bc (F_lb mem s r i &&& (x ^^^ (-1))) = 1) : F_wl mem s x p r i = x := by
  unfold F_wl
  by_cases hp : F_and p (F_pb r i) = 0
  · rw [if_pos hp]
  · rw [if_neg hp, if_neg h]
theorem Z_ln2 {mem : ja_M} {s : Nat} {p r : Int} {x : Int64} : ∀ n : Nat, (∀ j : Nat, j < n → ¬ J_bc (F_lb mem s r (j : Int) &&& (x ^^^ (-1))) = 1) → F_ln mem s p r x n = x
  | 0, _ => rfl
  | n + 1, h => by
    simp only [F_ln]
    rw [Z_ln2 n (fun j hj => h j (by omega))]
    exact Z_wl (h n (by omega))
/-- whatever packets there are, nothing is restored -/
theorem Z_rd {mem : ja_M} {s : Nat} {p k : Int} (h3 : mem s 3 = 4) (h4 : mem s 4 = 4) (hk : 0 ≤ k ∧ k ≤ 62) : F_rd mem s p (Z_zx k) = Z_zx k := by
  have key : ∀ r : Int, (0 ≤ r ∧ r ≤ 1) → F_ln mem s p r (Z_zx k) (4 : Int).toNat = Z_zx k := fun r hr => Z_ln2 _ (fun j hj => by
    rw [Z_lb h3 h4]
    have hz := Z_line (r := r) (i := (j : Int)) hr hk ⟨by omega, by omega⟩
    rw [hz.1]
    exact hz.2)
  unfold F_rd
  rw [h3, h4, key 1 (by omega), key 0 (by omega)]
theorem Z_hP {mem : ja_M} {b : Nat} (h : Z_R mem b) {r k i : Int} (hP : ja_hasP mem (b + 1) r k i) : (0 ≤ k ∧ k ≤ 62) ∧ 0 ≤ i ∧ i ≤ 3 := by
  obtain ⟨-, -, -, s3, s4, -⟩ := h.1
  obtain ⟨⟨h1, h2⟩, h3, h4⟩ := hP
  unfold ja_cells at h2
  rw [s3, s4] at h2
  have e : (999 : Int) / (4 * 4) = 62 := by decide
  rw [e] at h2
  rw [s3, s4] at h4
  exact ⟨⟨h1, h2⟩, h3, by split at h4 <;> omega⟩
theorem Z_pn {mem : ja_M} {b : Nat} (h : Z_R mem b) {r k i : Int} (hP : ja_hasP mem (b + 1) r k i) : R_pn mem b r k i = 0 := by
  obtain ⟨hk, hi⟩ := Z_hP h hP
  obtain ⟨-, -, -, s3, s4, -⟩ := h.1
  have e1 : R_pk mem b r k i (b + 1) = mem (b + 1) := by rw [R_pk, F_ap_o (by omega), R_so_o (by omega)]
  have e2 : R_pk mem b r k i (b + 2 + 1) = mem (b + 2 + 1) := by rw [R_pk, F_ap_o (by omega), R_so_o (by omega)]
  unfold R_pn
  split
  · refine Z_rn ?_
    have e3 : F_kn (R_pk mem b r k i) (b + 1) (b + 2) k = Z_zx k := by
      rw [← Z_knx h k]
      unfold F_kn F_bey ja_cells
      rw [e1, e2]
    rw [e3]
    exact Z_rd (by rw [e1]; exact s3) (by rw [e1]; exact s4) hk
  · rfl
-- the reference
theorem N_mi_c {v w : Nat → Int} {r k i : Int} (hs : N_ss v w) (hS : N_S v) (hk : N_hB v k) (hi : 0 ≤ i ∧ i ≤ 6) (hf : ∀ j, 30 ≤ j → j < 1030 → w j = v j) : ∀ c : Nat, c ≤ 6 → N_mi w r k i c = N_mi v r k i c
  | 0, _ => rfl
  | c + 1, hc => by
    have hcv := N_cv_in (r := r) (j := (c : Int)) hS hk hi ⟨by omega, by omega⟩
    simp only [N_mi]
    rw [N_mi_c hs hS hk hi hf c (by omega), hs.cv]
    have he : N_kn w (N_cv v r k i c) ↔ N_kn v (N_cv v r k i c) := by
      by_cases h9 : 999 < N_cv v r k i c
      · exact ⟨fun _ => Or.inl h9, fun _ => Or.inl h9⟩
      · unfold N_kn
        rw [hf _ (by omega) (by omega)]
    by_cases hq : N_kn v (N_cv v r k i c)
    · rw [if_pos hq, if_pos (he.mpr hq)]
    · rw [if_neg hq, if_neg (fun q => hq (he.mp q))]
theorem Z_rr2 {a : Int} {v : Nat → Int} {r k : Int} : ∀ n : Nat, (∀ j : Nat, j < n → ¬ N_mi v r k (j : Int) (N_cs v r).toNat = 1) → N_rr a v r k n = (0, v)
  | 0, _ => rfl
  | n + 1, h => by
    simp only [N_rr]
    rw [Z_rr2 n (fun j hj => h j (by omega))]
    have e1 : N_rn v r k (n : Int) = 0 := by rw [N_rn, if_neg (h n (by omega))]
    have e2 : N_rv v r k (n : Int) = v := by rw [N_rv, if_neg (h n (by omega))]
    split
    · dsimp only
      rw [e1, e2]
      rfl
    · rfl
theorem Z_rs2 {a : Int} {v : Nat → Int} {k : Int} (h1 : ∀ j : Nat, j < (v 4).toNat → ¬ N_mi v 1 k (j : Int) (N_cs v 1).toNat = 1) (h0 : ∀ j : Nat, j < (v 3).toNat → ¬ N_mi v 0 k (j : Int) (N_cs v 0).toNat = 1) : N_rs a k 40 0 v = (0, v) := by
  have e : N_rd a v k = (0, v) := by
    unfold N_rd
    rw [Z_rr2 _ h1]
    dsimp only
    rw [Z_rr2 _ h0]
    rfl
  simp only [N_rs]
  rw [e]
  rfl
theorem Z_hPN {r k i : Int} (hP : N_hP N_v0 r k i) : (0 ≤ k ∧ k ≤ 62) ∧ 0 ≤ i ∧ i ≤ 3 := by
  obtain ⟨⟨h1, h2⟩, h3, h4⟩ := hP
  have e : (999 : Int) / N_ar N_v0 = 62 := by decide
  rw [e] at h2
  exact ⟨⟨h1, h2⟩, h3, by split at h4 <;> (first | (have e3 : N_v0 3 = 4 := rfl; omega) | (have e4 : N_v0 4 = 4 := rfl; omega))⟩
theorem Z_hB62 {k : Int} (hk : 0 ≤ k ∧ k ≤ 62) : N_hB N_v0 k := by
  refine ⟨hk.1, ?_⟩
  have e : (999 : Int) / N_ar N_v0 = 62 := by decide
  omega
theorem Z_rs3 {a : Int} {w : Nat → Int} {k : Int} (hk : 0 ≤ k ∧ k ≤ 62) (hs : N_ss N_v0 w) (hf : ∀ j, 30 ≤ j → j < 1030 → w j = N_v0 j) : N_rs a k 40 0 w = (0, w) := by
  have e3 : w 3 = 4 := hs 3 (by omega)
  have e4 : w 4 = 4 := hs 4 (by omega)
  have key : ∀ (r : Int) (j : Nat), (0 ≤ r ∧ r ≤ 1) → j < 4 → ¬ N_mi w r k (j : Int) (N_cs w r).toNat = 1 := fun r j hr hj => by
    have ec : (N_cs w r).toNat = 4 := by
      unfold N_cs
      rw [e3, e4]
      split <;> rfl
    rw [ec, N_mi_c hs N_v0_R.S (Z_hB62 hk) ⟨by omega, by omega⟩ hf 4 (by omega)]
    exact (Z_line hr hk ⟨by omega, by omega⟩).2
  exact Z_rs2 (fun j hj => key 1 j (by omega) (by rw [e4] at hj; omega)) (fun j hj => key 0 j (by omega) (by rw [e3] at hj; omega))
theorem Z_qn {r k i : Int} (hP : N_hP N_v0 r k i) : N_qn N_v0 r k i = 0 := by
  obtain ⟨hk, hi⟩ := Z_hPN hP
  have hpk := N_pk_in (r := r) (i := i) N_v0_R.S (Z_hB62 hk) ⟨by omega, by omega⟩
  unfold N_qn
  split
  · rfl
  · rw [Z_rs3 hk]
    · intro j hj
      rw [N_qw, ja_rs_n (by omega), N_be_n (by omega)]
    · intro j h0 h1
      rw [N_qw, ja_rs_n (by omega), N_be_n (by omega)]
theorem Z_ur {mem : ja_M} {b : Nat} (h : Z_R mem b) {k : Int} (hk : 0 ≤ k ∧ k ≤ 62) : J_bc ((ja_shl 1 (ja_cells mem (b + 1)) - 1) &&& (F_cp mem (b + 1) (-1) 37 (F_kn mem (b + 1) (b + 2) k) ^^^ (-1))) = N_ur N_v0 k := by
  obtain ⟨-, -, -, s3, s4, -⟩ := h.1
  rw [Z_knx h, Z_cp (Z_rd s3 s4 hk)]
  have hz := Z_unr ⟨k.toNat, by omega⟩
  rw [show ((k.toNat : Nat) : Int) = k by omega] at hz
  unfold ja_cells N_ur
  rw [s3, s4, Z_rs3 hk N_ss.rf (fun _ _ _ => rfl), show (4 * 4 : Int) = 16 from rfl, show N_ar N_v0 = 16 by decide, hz]
  rfl
end
section
-- a copy, place by place
theorem ja_cp_i {mem : ja_M} {a0 a1 k j : Nat} (h : j < k) : ja_cp mem a0 a1 0 0 k a1 j = mem a0 j := by
  unfold ja_cp
  rw [if_pos ⟨rfl, by omega, by omega⟩]
  congr 1
  omega
/-- receiver b holds what receiver o holds (in another memory) -/
def R_eq (mem' : ja_M) (b : Nat) (mem : ja_M) (o : Nat) : Prop := (∀ j, j < 9 → mem' (b + 1) j = mem (o + 1) j) ∧ (∀ c j, 3 ≤ c → c ≤ 5 → j < 250 → mem' (b + c) j = mem (o + c) j) ∧ (mem' (b + 6) 2 = mem (o + 6) 2 ∧ mem' (b + 6) 3 = mem (o + 6) 3) ∧ (∀ c j, 7 ≤ c → c ≤ 8 → j < 16 → mem' (b + c) j = mem (o + c) j) ∧ (mem' (b + 9) 1 = mem (o + 9) 1 ∧ mem' (b + 9) 2 = mem (o + 9) 2 ∧ mem' (b + 9) 4 = mem (o + 9) 4 ∧ mem' (b + 9) 6 = mem (o + 9) 6) ∧ (∀ j, j < 24 → mem' (b + 10) j = mem (o + 10) j) ∧ (∀ j, j < 256 → mem' (b + 11) j = mem (o + 11) j) ∧ (∀ j, j < 32 → mem' (b + 12) j = mem (o + 12) j) ∧ (∀ j, j < 9 → mem' (b + 14) j = mem (o + 14) j) ∧ mem' (b + 15) 4 = mem (o + 15) 4 ∧ (∀ (c j : Nat), 16 ≤ c → c ≤ 19 → (j : Int) < mem (o + 15) 4 → mem' (b + c) j = mem (o + c) j) ∧ (mem' b 6 = mem o 6 ∧ mem' b 7 = mem o 7 ∧ mem' b 8 = mem o 8)
theorem R_cp_eq {mem : ja_M} {b o : Nat} (hbo : b + 20 ≤ o ∨ o + 20 ≤ b) (hz : 0 ≤ mem (o + 15) 4 ∧ mem (o + 15) 4 ≤ 24) : R_eq (R_cp mem b o) b mem o := by
  have hx : ∀ q, q ≠ b → q < b + 15 → R_cp mem b o q = R_c5 mem b o q := fun q a1 a2 => by
    unfold R_cp R_c6
    rw [ja_up_row a1, ja_up_row a1, ja_up_row a1, A_all_o (by omega), ja_up_row (by omega)]
  have o1 : ∀ q, q ≠ b + 1 → R_c1 mem b o q = mem q := fun q a1 => by
    unfold R_c1
    exact S_cp_o a1
  have o2 : ∀ q, q ≠ b + 1 → (q < b + 3 ∨ b + 6 ≤ q) → R_c2 mem b o q = mem q := fun q a1 a2 => by
    unfold R_c2
    rw [F_cpy_o (by omega), o1 q a1]
  have o3 : ∀ q, (q < b + 1 ∨ b + 9 ≤ q) → R_c3 mem b o q = mem q := fun q a1 => by
    unfold R_c3
    rw [T_cp_o (by omega), o2 q (by omega) (by omega)]
  have o4 : ∀ q, (q < b + 1 ∨ b + 14 ≤ q) → R_c4 mem b o q = mem q := fun q a1 => by
    unfold R_c4
    rw [P_cp2_o (by omega), o3 q (by omega)]
  have r2 : ∀ q, q ≠ b → b + 2 ≤ q → q < b + 6 → R_cp mem b o q = R_c2 mem b o q := fun q a0 a1 a2 => by
    rw [hx q a0 (by omega)]
    unfold R_c5 R_c4 R_c3
    rw [C_cp_o (by omega), P_cp2_o (by omega), T_cp_o (by omega)]
  have r6 : ∀ q, b + 6 ≤ q → q < b + 9 → R_cp mem b o q = R_c3 mem b o q := fun q a1 a2 => by
    rw [hx _ (by omega) (by omega)]
    unfold R_c5 R_c4
    rw [C_cp_o (by omega), P_cp2_o (by omega)]
  have r9 : ∀ q, b + 9 ≤ q → q < b + 14 → R_cp mem b o q = R_c4 mem b o q := fun q a1 a2 => by
    rw [hx _ (by omega) (by omega)]
    unfold R_c5
    rw [C_cp_o (by omega)]
  have ha : ∀ q, b + 15 ≤ q → R_cp mem b o q = R_c6 mem b o q := fun q a1 => by
    unfold R_cp
    rw [ja_up_row (by omega), ja_up_row (by omega), ja_up_row (by omega)]
  have hA6 : R_c6 mem b o = A_all (ja_up (R_c5 mem b o) (b + 15) 4 0) (b + 15) (o + 15) (mem (o + 15) 4).toNat := by
    unfold R_c6
    rw [R_c5_o (by omega)]
  have hIs := A_all_is (mem := ja_up (R_c5 mem b o) (b + 15) 4 0) (a := b + 15) (o := o + 15) (by rw [ja_up_s]) (by omega) (mem (o + 15) 4).toNat (by omega)
  obtain ⟨i4, ij⟩ := hIs
  have m5 : ∀ q, q ≠ b + 15 → (q < b + 1 ∨ b + 15 ≤ q) → ja_up (R_c5 mem b o) (b + 15) 4 0 q = mem q := fun q a1 a2 => by rw [ja_up_row a1, R_c5_o (by omega)]
  refine ⟨fun j hj => ?_, fun c j c1 c2 hj => ?_, ⟨?_, ?_⟩, fun c j c1 c2 hj => ?_, ⟨?_, ?_, ?_, ?_⟩, fun j hj => ?_, fun j hj => ?_, fun j hj => ?_, fun j hj => ?_, ?_, fun c j c1 c2 hj => ?_, ⟨?_, ?_, ?_⟩⟩
  · rw [hx _ (by omega) (by omega)]
    unfold R_c5 R_c4 R_c3 R_c2 R_c1
    rw [C_cp_o (by omega), P_cp2_o (by omega), T_cp_o (by omega), F_cpy_o (by omega), S_cp_s hj]
  · rw [r2 _ (by omega) (by omega) (by omega)]
    unfold R_c2 F_cpy
    rcases (show c = 3 ∨ c = 4 ∨ c = 5 by omega) with rfl | rfl | rfl
    · rw [ja_cp_o _ (by omega), ja_cp_o _ (by omega), show b + 3 = b + 2 + 1 by omega, ja_cp_i hj, o1 _ (by omega)]
    · rw [ja_cp_o _ (by omega), show b + 4 = b + 2 + 2 by omega, ja_cp_i hj, ja_cp_o _ (by omega), o1 _ (by omega)]
    · rw [show b + 5 = b + 2 + 3 by omega, ja_cp_i hj, ja_cp_o _ (by omega), ja_cp_o _ (by omega), o1 _ (by omega)]
  · rw [r6 _ (by omega) (by omega)]
    unfold R_c3 T_cp
    rw [ja_up_j (by omega), ja_up_s, o2 _ (by omega) (by omega)]
  · rw [r6 _ (by omega) (by omega)]
    unfold R_c3 T_cp
    rw [ja_up_s, o2 _ (by omega) (by omega)]
  · rw [r6 _ (by omega) (by omega)]
    unfold R_c3 T_cp
    rcases (show c = 7 ∨ c = 8 by omega) with rfl | rfl
    · rw [ja_up_a (by omega), ja_up_a (by omega), ja_cp_o _ (by omega), show b + 7 = b + 6 + 1 by omega, ja_cp_i hj, o2 _ (by omega) (by omega)]
    · rw [ja_up_a (by omega), ja_up_a (by omega), show b + 8 = b + 6 + 2 by omega, ja_cp_i hj, ja_cp_o _ (by omega), o2 _ (by omega) (by omega)]
  · rw [r9 _ (by omega) (by omega)]
    unfold R_c4 P_cp2
    rw [o3 (o + 9) (by omega), ja_up_j (by omega), ja_cp_o _ (by omega), ja_up_j (by omega), ja_cp_o _ (by omega), ja_up_j (by omega), ja_up_s]
  · rw [r9 _ (by omega) (by omega)]
    unfold R_c4 P_cp2
    rw [o3 (o + 9) (by omega), ja_up_j (by omega), ja_cp_o _ (by omega), ja_up_j (by omega), ja_cp_o _ (by omega), ja_up_s]
  · rw [r9 _ (by omega) (by omega)]
    unfold R_c4 P_cp2
    rw [o3 (o + 9) (by omega), ja_up_j (by omega), ja_cp_o _ (by omega), ja_up_s]
  · rw [r9 _ (by omega) (by omega)]
    unfold R_c4 P_cp2
    rw [o3 (o + 9) (by omega), ja_up_s]
  · rw [r9 _ (by omega) (by omega)]
    unfold R_c4 P_cp2
    rw [ja_up_a (by omega), ja_cp_o _ (by omega), ja_up_a (by omega), ja_cp_o _ (by omega), ja_up_a (by omega), ja_up_a (by omega), show b + 10 = b + 9 + 1 by omega, ja_cp_i hj, o3 _ (by omega)]
  · rw [r9 _ (by omega) (by omega)]
    unfold R_c4 P_cp2
    rw [ja_up_a (by omega), ja_cp_o _ (by omega), ja_up_a (by omega), show b + 11 = b + 9 + 2 by omega, ja_cp_i hj, ja_up_a (by omega), ja_up_a (by omega), ja_cp_o _ (by omega), o3 _ (by omega)]
  · rw [r9 _ (by omega) (by omega)]
    unfold R_c4 P_cp2
    rw [ja_up_a (by omega), show b + 12 = b + 9 + 3 by omega, ja_cp_i hj, ja_up_a (by omega), ja_cp_o _ (by omega), ja_up_a (by omega), ja_up_a (by omega), ja_cp_o _ (by omega), o3 _ (by omega)]
  · rw [hx _ (by omega) (by omega)]
    unfold R_c5
    rw [C_cp_s hj, o4 _ (by omega)]
  · rw [ha _ (by omega), hA6, i4]
    omega
  · obtain ⟨e1, e2, e3, e4⟩ := ij j (by omega)
    rw [ha _ (by omega), hA6]
    rcases (show c = 16 ∨ c = 17 ∨ c = 18 ∨ c = 19 by omega) with rfl | rfl | rfl | rfl
    · rw [show b + 16 = b + 15 + 1 by omega, e1, m5 _ (by omega) (by omega)]
    · rw [show b + 17 = b + 15 + 2 by omega, e2, m5 _ (by omega) (by omega)]
    · rw [show b + 18 = b + 15 + 3 by omega, e3, m5 _ (by omega) (by omega)]
    · rw [show b + 19 = b + 15 + 4 by omega, e4, m5 _ (by omega) (by omega)]
  · unfold R_cp
    rw [ja_up_j (by omega), ja_up_j (by omega), ja_up_s, R_c6_o (by omega)]
  · unfold R_cp
    rw [ja_up_j (by omega), ja_up_s, R_c6_o (by omega)]
  · unfold R_cp
    rw [ja_up_s, R_c6_o (by omega)]
-- a receiver to which nothing has arrived, with nothing scheduled: time passes
def Z_I (mem : ja_M) (b : Nat) : Prop := mem b 7 = 0 ∧ mem (b + 15) 4 = 0
theorem Z_tk {mem : ja_M} {b : Nat} (h : Z_I mem b) : R_tk mem b = ja_up (ja_up mem (b + 15) 4 0) b 6 (mem b 6 + 1) := by
  have e1 : R_due mem b = ja_up mem (b + 15) 4 0 := by
    unfold R_due
    rw [h.2]
    rfl
  have e2 : R_pl (R_due mem b) b = R_due mem b := by
    unfold R_pl
    rw [if_neg]
    intro q
    rw [e1, ja_up_a (show b ≠ b + 15 by omega)] at q
    exact q.1 h.1
  unfold R_tk
  rw [e2, e1, ja_up_a (show b ≠ b + 15 by omega)]
theorem Z_tk_v {mem : ja_M} {b q j : Nat} (h : Z_I mem b) (hq : ¬ (q = b ∧ j = 6)) : R_tk mem b q j = mem q j := by
  rw [Z_tk h, ja_up_x (by omega)]
  unfold ja_up
  split
  · rename_i hh
    rw [hh.1, hh.2, h.2]
  · rfl
theorem Z_tk_I {mem : ja_M} {b : Nat} (h : Z_I mem b) : Z_I (R_tk mem b) b := ⟨(Z_tk_v h (by omega)).trans h.1, (Z_tk_v h (by omega)).trans h.2⟩
theorem Z_adv {mem : ja_M} {b : Nat} (h : Z_I mem b) : ∀ k, Z_I (B_adv mem b k) b ∧ ∀ q j, ¬ (q = b ∧ j = 6) → B_adv mem b k q j = mem q j
  | 0 => ⟨h, fun _ _ _ => rfl⟩
  | k + 1 => by
    obtain ⟨i1, i2⟩ := Z_adv h k
    exact ⟨Z_tk_I i1, fun q j hq => (Z_tk_v i1 hq).trans (i2 q j hq)⟩
theorem Z_gap {b : Nat} {c : Int} : ∀ (r i : Nat) (m : ja_M), Z_I m b → m (b + 14) 2 ≤ c → (B_gap b c r i m).1 = -1004
  | 0, _, _, _, _ => rfl
  | r + 1, i, m, h, hc => by
    have e := Z_tk_v (q := b + 14) (j := 2) h (by omega)
    simp only [B_gap]
    rw [if_neg (by omega)]
    exact Z_gap r (i + 1) _ (Z_tk_I h) (by omega)
theorem Z_fra {b : Nat} {x : Int} : ∀ (r i : Nat) (m : ja_M), Z_I m b → m (b + 9) 6 ≤ x → (B_fra b x r i m).1 = -1004
  | 0, _, _, _, _ => rfl
  | r + 1, i, m, h, hc => by
    have e := Z_tk_v (q := b + 9) (j := 6) h (by omega)
    simp only [B_fra]
    rw [if_neg (by omega)]
    exact Z_fra r (i + 1) _ (Z_tk_I h) (by omega)
-- the reference
def Z_J (v : Nat → Int) : Prop := v 10 < 0 ∧ v 25 = 0
theorem Z_t1 {v : Nat → Int} (h : Z_J v) : N_t1 v = ja_rs (ja_rs v 25 0) 27 0 := by
  unfold N_t1 N_as
  rw [h.2]
  rfl
theorem Z_on {v : Nat → Int} (h : Z_J v) : ¬ N_on (N_t1 v) := by
  intro q
  have q1 := q.1
  rw [Z_t1 h, ja_rs_n (by omega), ja_rs_n (by omega)] at q1
  have := h.1
  omega
theorem Z_ti {v : Nat → Int} (h : Z_J v) : N_ti v = ja_rs (ja_rs (ja_rs v 25 0) 27 0) 9 (v 9 + 1) := by
  unfold N_ti N_pl
  rw [if_neg (Z_on h), Z_t1 h, ja_rs_n (show (9 : Nat) ≠ 27 by omega), ja_rs_n (show (9 : Nat) ≠ 25 by omega)]
theorem Z_to {v : Nat → Int} (h : Z_J v) : N_to v = 0 := by
  unfold N_to
  rw [if_neg (fun q => Z_on h q.1)]
theorem Z_ti_v {v : Nat → Int} {j : Nat} (h : Z_J v) (h9 : j ≠ 9) (h27 : j ≠ 27) : N_ti v j = v j := by
  rw [Z_ti h, ja_rs_n h9, ja_rs_n h27]
  unfold ja_rs
  split
  · rename_i hh
    rw [hh, h.2]
  · rfl
theorem Z_ti_27 {v : Nat → Int} (h : Z_J v) : N_ti v 27 = 0 := by rw [Z_ti h, ja_rs_n (by omega), ja_rs_s]
theorem Z_ti_J {v : Nat → Int} (h : Z_J v) : Z_J (N_ti v) := ⟨by rw [Z_ti_v h (by omega) (by omega)]; exact h.1, by rw [Z_ti_v h (by omega) (by omega)]; exact h.2⟩
theorem Z_ad {v : Nat → Int} (h : Z_J v) : ∀ k, Z_J (N_ad v k)
  | 0 => h
  | k + 1 => Z_ti_J (Z_ad h k)
theorem Z_at {v : Nat → Int} (h : Z_J v) : ∀ k, N_at v k = 0
  | 0 => rfl
  | k + 1 => by
    simp only [N_at]
    rw [Z_at h k, Z_to (Z_ad h k)]
    rfl
theorem Z_ag {v : Nat → Int} (h : Z_J v) : ∀ k, N_ag v k = 0
  | 0 => rfl
  | k + 1 => by
    simp only [N_ag]
    rw [Z_ag h k, Z_ti_27 (Z_ad h k)]
    rfl
theorem Z_xg : ∀ (r i : Nat) (v : Nat → Int), Z_J v → N_xg r i v = -1004
  | 0, _, _, _ => rfl
  | r + 1, i, v, h => by
    simp only [N_xg]
    rw [Z_ti_27 h, if_neg (by omega)]
    exact Z_xg r (i + 1) _ (Z_ti_J h)
theorem Z_xf {x : Int} : ∀ (r i : Nat) (v : Nat → Int), Z_J v → v 11 ≤ x → N_xf x r i v = -1004
  | 0, _, _, _, _ => rfl
  | r + 1, i, v, h, hx => by
    have e := Z_ti_v (j := 11) h (by omega) (by omega)
    simp only [N_xf]
    rw [if_neg (by omega)]
    exact Z_xf r (i + 1) _ (Z_ti_J h) (by omega)
theorem N_v0_J : Z_J N_v0 := ⟨by decide, by decide⟩
end
section
-- answers of the fresh objects
section
variable {lay : ja_Y} {mem : ja_M} {n y m : Nat}
theorem Z_bg (h : L_fr lay mem n y m) : ¬ B_bg mem y := by
  intro q
  have e1 := h.R.2 (y + 1) 7 (by omega) (by omega) (by omega)
  have e2 := h.R.2 (y + 1 + 15) 4 (by omega) (by omega) (by omega)
  unfold B_bg at q
  omega
theorem Z_bgN : ¬ N_bg N_v0 := by
  intro q
  have e1 : N_v0 10 = -1 := rfl
  have e2 : N_v0 25 = 0 := rfl
  unfold N_bg at q
  omega
theorem Z_s (h : L_fr lay mem n y m) : ∀ j, j < 9 → mem (y + 1 + 1) j = N_v0 j := by
  obtain ⟨s0, s1, s2, s3, s4, s5, s6, s7, s8⟩ := h.R.1
  intro j hj
  rcases (show j = 0 ∨ j = 1 ∨ j = 2 ∨ j = 3 ∨ j = 4 ∨ j = 5 ∨ j = 6 ∨ j = 7 ∨ j = 8 by omega) with rfl | rfl | rfl | rfl | rfl | rfl | rfl | rfl | rfl
  · exact s0
  · exact s1
  · exact s2
  · exact s3
  · exact s4
  · exact s5
  · exact s6
  · exact s7
  · exact s8
theorem Z_z (h : L_fr lay mem n y m) {c j : Nat} (h0 : c < 20) (h1 : c ≠ 1) : mem (y + 1 + c) j = 0 := h.R.2 _ _ (by omega) (by omega) (by omega)
theorem Z_zz (h : L_fr lay mem n y m) {c d j : Nat} (h0 : c + d < 20) (h1 : c + d ≠ 1) : mem (y + 1 + c + d) j = 0 := h.R.2 _ _ (by omega) (by omega) (by omega)
theorem ja_wave_N {mem : ja_M} {s : Nat} {v : Nat → Int} (h : ∀ j, j < 9 → mem s j = v j) (x j : Int) : ja_wave mem s x j = N_wv v x j := by
  unfold ja_wave N_wv
  rw [h 0 (by omega), h 1 (by omega), h 2 (by omega)]
theorem ja_cov_N {mem : ja_M} {s : Nat} {v : Nat → Int} (h : ∀ j, j < 9 → mem s j = v j) (r k i j : Int) : ja_cov mem s r k i j = N_cv v r k i j := by
  unfold ja_cov N_cv ja_cells N_ar
  rw [h 3 (by omega), h 4 (by omega), Int.mul_comm k, Int.mul_comm j, Int.mul_comm i]
theorem ja_hasB_N {mem : ja_M} {s : Nat} {v : Nat → Int} (h : ∀ j, j < 9 → mem s j = v j) (k : Int) : ja_hasB mem s k ↔ N_hB v k := by
  unfold ja_hasB N_hB ja_cells N_ar
  rw [h 3 (by omega), h 4 (by omega)]
theorem ja_hasP_N {mem : ja_M} {s : Nat} {v : Nat → Int} (h : ∀ j, j < 9 → mem s j = v j) (r k i : Int) : ja_hasP mem s r k i ↔ N_hP v r k i := by
  unfold ja_hasP N_hP
  rw [ja_hasB_N h, h 3 (by omega), h 4 (by omega)]
  constructor
  · rintro ⟨a, b, c⟩
    exact ⟨a, b, by omega⟩
  · rintro ⟨a, b, c⟩
    exact ⟨a, b, by omega⟩
theorem ja_if {P Q : Prop} [Decidable P] [Decidable Q] {a b c d : Int} (h : P ↔ Q) (h1 : Q → a = c) (h2 : b = d) : (if P then a else b) = if Q then c else d := by
  by_cases hq : Q
  · rw [if_pos hq, if_pos (h.mpr hq)]
    exact h1 hq
  · rw [if_neg hq, if_neg (fun p => hq (h.mp p))]
    exact h2
theorem B_par_in {mem : ja_M} {s : Nat} {r k i p : Int} : ∀ c, ja_in (B_par mem s r k i p c)
  | 0 => ⟨by simp [B_par], by simp [B_par]⟩
  | c + 1 => by
    simp only [B_par]
    split
    · exact B_par_in c
    · exact ja_range _
theorem B_par_N {mem : ja_M} {s : Nat} {v : Nat → Int} (h : ∀ j, j < 9 → mem s j = v j) (r k i p : Int) : ∀ c, B_par mem s r k i p c = N_ps v r k i p c
  | 0 => rfl
  | c + 1 => by
    have hin := @B_par_in mem s r k i p c
    simp only [B_par, N_ps]
    rw [← B_par_N h r k i p c, ja_cov_N h, ja_wave_N h]
    by_cases h9 : 999 < N_cv v r k i c
    · rw [if_pos h9, if_pos h9, Z_xor0 hin]
    · rw [if_neg h9, if_neg h9]
theorem Z_frk {b : Nat} (h : Z_R mem b) : ∀ (k : Nat) (x : Int), F_fr mem (b + 1) (b + 2) x k = x
  | 0, _ => rfl
  | k + 1, x => by
    simp only [F_fr]
    rw [if_pos (Z_st h x)]
theorem Z_fok {x : Int} (hx : 0 ≤ x ∧ x ≤ 999) : ∀ k, N_fo N_v0 x k = x
  | 0 => rfl
  | k + 1 => by
    simp only [N_fo]
    rw [if_neg (Z_kn x hx)]
theorem Z_lvN : N_lv N_v0 0 = 0 := by
  unfold N_lv
  rw [Z_fok ⟨by omega, by omega⟩]
  decide
theorem Z_lvR (h : L_fr lay mem n y m) : R_lv mem (y + 1) (mem (y + 1 + 9) 6) = 0 := by
  unfold R_lv
  rw [Z_frk h.R, Int.sub_self, Int.mul_zero]
theorem Z_tgR (h : L_fr lay mem n y m) : R_tg mem (y + 1) = 8 := by
  unfold R_tg T_spr
  rw [Z_z h (by omega) (by omega), if_pos rfl, Z_s h 7 (by omega)]
  rfl
theorem Z_tgN : N_tg N_v0 = 8 := by decide
-- the text
theorem Z_HO (h : L_fr lay mem n y m) : mem (y + 42) 1 = 0 := h.2.2.2.2.2.2.1 _ _ (by omega) (by omega) (by omega) (by omega)
theorem Z_rdB (h : L_fr lay mem n y m) : (B_rd mem y).1 = -1004 ∧ (B_rd mem y).2 = ja_up (ja_up mem (y + 44) 4 0) (y + 42) 2 0 := by
  unfold B_rd
  rw [Z_HO h]
  have e : ja_up (ja_up mem (y + 44) 4 0) (y + 42) 2 0 (y + 42) 2 = 0 := ja_up_s _ _ _ _
  refine ⟨?_, rfl⟩
  show (if ja_up (ja_up mem (y + 44) 4 0) (y + 42) 2 0 (y + 42) 2 = 0 then (-1004 : Int) else 0) = -1004
  rw [e, if_pos rfl]
theorem Z_scB (h : L_fr lay mem n y m) : (B_sc mem y).1 = 0 := by
  obtain ⟨h1, h2⟩ := Z_rdB h
  have e4 : (B_rd mem y).2 (y + 44) 4 = 0 := by rw [h2, ja_up_a (by omega), ja_up_s]
  have e5 : (B_rd mem y).2 (y + 1 + 15) 4 = 0 := by rw [h2, ja_up_a (by omega), ja_up_a (by omega)]; exact Z_z h (by omega) (by omega)
  unfold B_sc
  rw [if_pos h1, e4, e5]
  rfl
theorem Z_rdN {G : ja_M} (h : G m 5 = 0) : N_rdt G m = (1, 0, 0, G (m + 8)) := by
  unfold N_rdt
  rw [h]
  simp only [N_tx]
  rw [if_neg (by omega)]
theorem Z_srN {G : ja_M} (h : G m 5 = 0) : N_sr N_v0 (N_rdt G m) = 0 := by
  rw [Z_rdN h]
  unfold N_sr
  show (if (1 : Int) = 0 then (-1003 : Int) else if N_cas N_v0 (G (m + 8)) 0 0 = 0 then -1001 else if 24 < N_v0 25 + 0 then -1002 else 0) = 0
  rw [if_neg (show ¬ (1 : Int) = 0 by decide), if_neg (show ¬ N_cas N_v0 (G (m + 8)) 0 0 = 0 from (by decide : ¬ (1 : Int) = 0)), if_neg (show ¬ 24 < N_v0 25 + 0 by decide)]
theorem Z_cpI (h : L_fr lay mem n y m) : Z_I (R_cp mem (y + 21) (y + 1)) (y + 21) ∧ (R_cp mem (y + 21) (y + 1)) (y + 21 + 9) 6 = 0 := by
  have hz := Z_z h (c := 15) (j := 4) (by omega) (by omega)
  obtain ⟨e1, e2, e3, e4, e5, e6, e7, e8, e9, e10, e11, e12⟩ := R_cp_eq (mem := mem) (b := y + 21) (o := y + 1) (by omega) (by omega)
  refine ⟨⟨?_, ?_⟩, ?_⟩
  · rw [e12.2.1]
    exact Z_z h (c := 0) (by omega) (by omega)
  · rw [e10, hz]
  · rw [e5.2.2.2]
    exact Z_z h (by omega) (by omega)
theorem Z_I1 (h : L_fr lay mem n y m) : Z_I mem (y + 1) := ⟨Z_z h (c := 0) (by omega) (by omega), Z_z h (by omega) (by omega)⟩
-- the checksum
theorem B_cf_c {h : Int64} {g g' : Nat → Int} : ∀ k : Nat, (∀ j, j < k → g j = g' j) → B_cf h g k = B_cf h g' k
  | 0, _ => rfl
  | k + 1, e => by
    rw [B_cf_s, B_cf_s, B_cf_c k (fun j hj => e j (by omega)), e k (by omega)]
theorem Z_ou (h : L_fr lay mem n y m) (k : Int) : B_ou mem y k = N_ou N_v0 k := by
  unfold B_ou N_ou
  rw [Z_z h (c := 9) (j := 4) (by omega) (by omega), show N_v0 12 = 0 from rfl]
  refine ja_if Iff.rfl (fun hk => ?_) rfl
  rw [if_pos (by omega), if_pos (by omega)]
theorem Z_ki (h : L_fr lay mem n y m) (k : Int) : B_ki mem y k = N_ki N_v0 k := by
  unfold B_ki N_ki
  rw [Z_z h (c := 9) (j := 6) (by omega) (by omega), show N_v0 11 = 0 from rfl]
  refine ja_if Iff.rfl (fun hk => ?_) rfl
  rw [if_pos (by omega), if_pos (by omega)]
theorem Z_ck (h : L_fr lay mem n y m) : B_ck mem y = N_ck N_v0 := by
  have z9 : ∀ j, mem (y + 1 + 9) j = 0 := fun j => Z_z h (by omega) (by omega)
  have z14 : ∀ j, mem (y + 1 + 14) j = 0 := fun j => Z_z h (by omega) (by omega)
  have z0 : ∀ j, mem (y + 1) j = 0 := fun j => Z_z h (c := 0) (by omega) (by omega)
  have k2 : B_k2 mem y = N_k6 N_v0 := by
    have e7 : (if (0 : Int) = 0 then (-1004 : Int) else 0) = -1004 := rfl
    have e8 : (if (999 : Int) < 0 then (-1004 : Int) else 0) = 0 := rfl
    unfold B_k2 B_k1
    rw [z0, z0, z0, Z_tgR h, Z_lvR h, Z_z h (c := 6) (j := 2) (by omega) (by omega), Z_z h (c := 15) (j := 4) (by omega) (by omega)]
    simp only [B_cf, B_tk, z9, z14]
    unfold N_k6 N_k5 N_k4 N_k3 N_k2 N_k1
    rw [Z_tgN]
    simp only [N_v0_z (show 9 ≤ 11 by omega) (show 11 ≠ 10 by omega)]
    rw [Z_lvN]
    rfl
  unfold B_ck N_ck N_k8 N_k7
  have e3 : B_k3 mem y = B_cf (N_k6 N_v0) (fun k => N_ou N_v0 ((k : Int) + 1)) 64 := by
    unfold B_k3
    rw [k2]
    exact B_cf_c 64 (fun j _ => Z_ou h _)
  have e4 : B_k4 mem y = B_cf (B_cf (N_k6 N_v0) (fun k => N_ou N_v0 ((k : Int) + 1)) 64) (fun k => N_ki N_v0 ((k : Int) + 1)) 16 := by
    unfold B_k4
    rw [e3]
    exact B_cf_c 16 (fun j _ => Z_ki h _)
  rw [e4]
  refine B_cf_c 100 (fun j hj => ?_)
  show B_ss mem y (j : Int) = N_v0 (30 + (j : Int)).toNat
  unfold B_ss
  rw [Z_st h.R, N_v0_z (by omega) (by omega)]
  split <;> first | rfl | (rename_i hh; exact absurd (show B_isF (j : Int) from ⟨by omega, by omega⟩) hh)
end

theorem ja_LM_c {lay lay' : ja_Y} {m : Nat} (h : ∀ q, m ≤ q → q < m + 9 → lay' q = lay q) (hM : ja_LM lay m) : ja_LM lay' m := by
  unfold ja_LM
  rw [h m (by omega) (by omega), h (m + 1) (by omega) (by omega), h (m + 2) (by omega) (by omega), h (m + 3) (by omega) (by omega), h (m + 4) (by omega) (by omega), h (m + 5) (by omega) (by omega), h (m + 6) (by omega) (by omega), h (m + 7) (by omega) (by omega), h (m + 8) (by omega) (by omega)]
  exact hM
/-- a boolean argument out of the script -/
theorem r_bool {C : ja_C} {own : String} {cc : ByteArray} {nl : Nat} {rm : Room} {cells slots n pc : Nat} {lay : ja_Y} {mem : ja_M} {ls : List (Option Value)} {st : List Value} (F : ja_F C own cc nl rm) {x : Int} (hx : ja_in x) {o1 o2 : Int} {t1 t2 : Nat} (d1 : decode cc pc = .ok (.ifCond .eq o1, 3)) (h1 : (pc : Int) + o1 = (t1 : Int)) (d2 : decode cc (pc + 3) = .ok (.iconst 1, 1)) (d3 : decode cc (pc + 3 + 1) = .ok (.goto o2, 3)) (h3 : ((pc + 3 + 1 : Nat) : Int) + o2 = (t2 : Int)) (d4 : decode cc t1 = .ok (.iconst 0, 1)) (h4 : t1 + 1 = t2) (k : ja_W C cells slots lay mem n t2 ls (.int (ja_I (ja_b (¬ x = 0))) :: st)) : ja_W C cells slots lay mem n pc ls (.int (ja_I x) :: st) := by
  refine r_if_eq F hx d1 rfl h1 (fun h => ?_) (fun h => ?_)
  · refine r_iconst F d4 h4 ?_
    have e : ja_b (¬ x = 0) = 0 := if_neg (fun q => q h)
    rw [e] at k
    exact k
  · refine r_iconst F d2 rfl (r_goto F d3 h3 ?_)
    have e : ja_b (¬ x = 0) = 1 := if_pos h
    rw [e] at k
    exact k
theorem J_and63 (x : Int32) : 0 ≤ (x &&& ja_I 63).toInt ∧ (x &&& ja_I 63).toInt ≤ 63 := by
  have h : (x &&& ja_I 63).toInt = ((x.toBitVec &&& 63#32).toNat : Int) := by
    have h1 : (x &&& ja_I 63).toBitVec = x.toBitVec &&& 63#32 := by rw [Int32.toBitVec_and]; rfl
    show (x &&& ja_I 63).toBitVec.toInt = _
    rw [h1, BitVec.toInt_eq_toNat_of_lt]
    rw [BitVec.toNat_and]
    have := @Nat.and_le_right x.toBitVec.toNat (63#32).toNat
    have e : (63#32).toNat = 63 := rfl
    omega
  rw [h, BitVec.toNat_and]
  have := @Nat.and_le_right x.toBitVec.toNat (63#32).toNat
  have e : (63#32).toNat = 63 := rfl
  omega
end
section
-- THE INVARIANT OF A RUN OF CALLS, with a tie S between a receiver and the reference's row
theorem ja_RO.mono {mem : ja_M} {b : Nat} {t t' : Int} (h : ja_RO mem b t) (ht : t ≤ t') : ja_RO mem b t' := by
  obtain ⟨g1, g2, g3, g4, g5, g6, g7, g8, g9, g10, g11, g12⟩ := h
  exact ⟨g1, g2, g3, g4, g5, ⟨g6.1, by omega⟩, g7, ⟨g8.1, by omega⟩, g9, g10, g11, g12⟩
theorem N_O.mono {v : Nat → Int} {t t' : Int} (h : N_O v t) (ht : t ≤ t') : N_O v t' := by
  obtain ⟨g1, ⟨o1, o2, o3, o4, o5, o6, o7⟩, g3⟩ := h
  exact ⟨g1, ⟨by omega, by omega, o3, o4, o5, o6, o7⟩, g3⟩
theorem N_in_c {v w : Nat → Int} (h : ∀ j, j < 2484 → w j = v j) (hR : N_R v) : N_R w := fun j hj => by rw [h j hj]; exact hR j hj
theorem N_O.c {v w : Nat → Int} {t : Int} (h : ∀ j, j < 2484 → w j = v j) (hO : N_O v t) : N_O w t := by
  obtain ⟨g1, g2, g3⟩ := hO
  have hC := g1.C
  refine ⟨N_in_c h g1, ?_, ?_⟩
  · rw [h 9 (by omega), h 10 (by omega), h 11 (by omega), h 12 (by omega), h 13 (by omega), h 14 (by omega), h 21 (by omega), h 22 (by omega), h 23 (by omega)]
    exact g2
  · intro j j0 jl
    rw [h 25 (by omega)] at jl
    have hj := g3 j j0 jl
    have hs : N_ss v w := fun q hq => h q (by omega)
    rw [h (2388 + 4 * j).toNat (by omega), h (2388 + 4 * j + 1).toNat (by omega), h (2388 + 4 * j + 2).toNat (by omega)]
    exact ⟨hj.1, hj.2.1, fun q => hs.hP.mpr (hj.2.2 q)⟩
abbrev R_bg (mem : ja_M) (b : Nat) : Prop := ¬ mem b 7 = 0 ∨ 0 < mem (b + 15) 4
abbrev S_T : Type := ja_M → Nat → (Nat → Int) → Prop
/-- the text of both -/
def L_x (mem : ja_M) (y : Nat) (G : ja_M) (m : Nat) : Prop := mem (y + 42) 1 = G m 5 ∧ ∀ j : Nat, (j : Int) < G m 5 → mem (y + 42 + 1) j = G (m + 5) j
def S_cg (S : S_T) : Prop := ∀ (mem mem' : ja_M) (b : Nat) (v v' : Nat → Int), (∀ q, b ≤ q → q < b + 20 → mem' q = mem q) → (∀ j, j < 2484 → v' j = v j) → S mem b v → S mem' b v'
def S_cy (S : S_T) : Prop := ∀ (mem mem' : ja_M) (b o : Nat) (v : Nat → Int) (t : Int), ja_RO mem o t → R_eq mem' b mem o → S mem o v → S mem' b v
def S_s1 (S : S_T) : Prop := ∀ (mem : ja_M) (b : Nat) (v : Nat → Int) (t : Int) (P : Prop) [Decidable P] (j : Nat) (z : Int), j < 6 → ja_RO mem b t → N_O v t → S mem b v → S (if P ∧ ¬ R_bg mem b then ja_up mem (b + 1) j z else mem) b (if P ∧ ¬ N_bg v then ja_rs v j z else v)
def S_s2 (S : S_T) : Prop := ∀ (mem : ja_M) (b : Nat) (v : Nat → Int) (t : Int) (P : Prop) [Decidable P] (j i : Nat) (z w : Int), j < 6 → i < 6 → ja_RO mem b t → N_O v t → S mem b v → S (if P ∧ ¬ R_bg mem b then ja_up (ja_up mem (b + 1) j z) (b + 1) i w else mem) b (if P ∧ ¬ N_bg v then ja_rs (ja_rs v j z) i w else v)
def S_s3 (S : S_T) : Prop := ∀ (mem : ja_M) (b : Nat) (v : Nat → Int) (P : Prop) [Decidable P] (j : Nat) (z : Int), 6 ≤ j → j < 9 → S mem b v → S (if P then ja_up mem (b + 1) j z else mem) b (if P then ja_rs v j z else v)
def S_af (S : S_T) : Prop := ∀ (mem : ja_M) (b : Nat) (v : Nat → Int) (t x : Int), ja_RO mem b t → N_O v t → t ≤ 900000 → (0 ≤ x ∧ x ≤ 999) → S mem b v → S (R_af mem b x) b (N_av v x)
def S_ap (S : S_T) : Prop := ∀ (mem : ja_M) (b : Nat) (v : Nat → Int) (t r k i : Int), ja_RO mem b t → N_O v t → t ≤ 900000 → (0 ≤ r ∧ r ≤ 1) → S mem b v → S (if ja_hasP mem (b + 1) r k i then R_ap mem b r k i else mem) b (if N_hP v r k i then N_qv v r k i else v)
def S_tk (S : S_T) : Prop := ∀ (mem : ja_M) (b : Nat) (v : Nat → Int) (t : Int), ja_RO mem b t → N_O v t → t ≤ 900000 → S mem b v → S (R_tk mem b) b (N_ti v)
def S_sc (S : S_T) : Prop := ∀ (mem G : ja_M) (y m : Nat) (v : Nat → Int) (t : Int), ja_RO mem (y + 1) t → ja_HO mem (y + 42) → ja_AO mem (y + 44) → N_O v t → N_TO G m → L_x mem y G m → S mem (y + 1) v → S (B_sc mem y).2 (y + 1) (N_sw v (N_rdt G m))
def S_in (S : S_T) : Prop := ∀ (mem : ja_M) (b : Nat), Z_R mem b → S mem b N_v0
/-- what a tie must bear -/
def S_ok (S : S_T) : Prop := S_cg S ∧ S_cy S ∧ S_s1 S ∧ S_s2 S ∧ S_s3 S ∧ S_af S ∧ S_ap S ∧ S_tk S ∧ S_sc S ∧ S_in S
def L_c (lay : ja_Y) (mem : ja_M) (n y : Nat) (sl : Nat → Option Nat) (t : Int) : Prop := ja_LB lay y sl ∧ ja_BO mem y sl t ∧ y + 58 ≤ n ∧ (∀ i o, i < 2 → sl i = some o → y + 58 ≤ o ∧ o + 20 ≤ n) ∧ ∀ o0 o1, sl 0 = some o0 → sl 1 = some o1 → o0 + 20 ≤ o1 ∨ o1 + 20 ≤ o0
def L_r (lay : ja_Y) (mem : ja_M) (m : Nat) (t : Int) : Prop := ja_LM lay m ∧ N_O (mem (m + 1)) t ∧ N_TO mem m ∧ (∀ j, 0 ≤ mem (m + 4) j ∧ mem (m + 4) j ≤ 1) ∧ ∀ s : Nat, s < 2 → mem (m + 4) s = 1 → N_O (fun j => mem (m + 3) (2484 * s + j)) t
def L_s (S : S_T) (mem : ja_M) (y : Nat) (sl : Nat → Option Nat) : Prop := ∀ s : Nat, s < 2 → (sl s = none → mem (y + 49 + 4) s = 0) ∧ ∀ o, sl s = some o → mem (y + 49 + 4) s = 1 ∧ S mem o (fun j => mem (y + 49 + 3) (2484 * s + j))
def L_In (S : S_T) (lay : ja_Y) (mem : ja_M) (n y : Nat) (sl : Nat → Option Nat) (t : Int) : Prop := L_c lay mem n y sl t ∧ L_r lay mem (y + 49) t ∧ S mem (y + 1) (mem (y + 49 + 1)) ∧ L_x mem y mem (y + 49) ∧ L_s S mem y sl
-- the class's ranges
theorem ja_HO_c {mem M : ja_M} {x : Nat} (h0 : M x = mem x) (h1 : M (x + 1) = mem (x + 1)) (h : ja_HO mem x) : ja_HO M x := by
  unfold ja_HO
  rw [h0, h1]
  exact h
theorem BO_cg {mem M : ja_M} {y : Nat} {sl : Nat → Option Nat} {t t' : Int} (ht : t ≤ t') (h : ja_BO mem y sl t) (hf : ∀ q, y ≤ q → q < y + 49 → M q = mem q) (hs : ∀ i o q, i < 2 → sl i = some o → o ≤ q → q < o + 20 → M q = mem q) : ja_BO M y sl t' := by
  obtain ⟨h1, ⟨t2, h2⟩, h3, h4, h5⟩ := h
  exact ⟨ja_RO_all (fun q a b => hf q (by omega) (by omega)) (h1.mono ht), ⟨t2, ja_RO_all (fun q a b => hf q (by omega) (by omega)) h2⟩, ja_HO_c (hf _ (by omega) (by omega)) (hf _ (by omega) (by omega)) h3, ja_AO_c (fun q a b => hf q (by omega) (by omega)) h4, fun i o hi ho => ja_RO_all (fun q a b => hs i o q hi ho a b) ((h5 i o hi ho).mono ht)⟩
theorem BO_recv {mem M : ja_M} {y : Nat} {sl : Nat → Option Nat} {t t' : Int} (ht : t ≤ t') (h : ja_BO mem y sl t) (hs : ∀ i o, i < 2 → sl i = some o → y + 21 ≤ o) (hR : ja_RO M (y + 1) t') (hf : ∀ q, y + 21 ≤ q → M q = mem q) : ja_BO M y sl t' := by
  obtain ⟨h1, ⟨t2, h2⟩, h3, h4, h5⟩ := h
  exact ⟨hR, ⟨t2, ja_RO_all (fun q a b => hf q (by omega)) h2⟩, ja_HO_c (hf _ (by omega)) (hf _ (by omega)) h3, ja_AO_c (fun q a b => hf q (by omega)) h4, fun i o hi ho => ja_RO_all (fun q a b => hf q (by have := hs i o hi ho; omega)) ((h5 i o hi ho).mono ht)⟩
theorem BO_fore {mem M : ja_M} {y : Nat} {sl : Nat → Option Nat} {t t' : Int} (ht : t ≤ t') (h : ja_BO mem y sl t) (hs : ∀ i o, i < 2 → sl i = some o → y + 41 ≤ o) (hR : ∃ t2, ja_RO M (y + 21) t2) (hf : ∀ q, (q < y + 21 ∨ y + 41 ≤ q) → M q = mem q) : ja_BO M y sl t' := by
  obtain ⟨h1, -, h3, h4, h5⟩ := h
  exact ⟨ja_RO_all (fun q a b => hf q (by omega)) (h1.mono ht), hR, ja_HO_c (hf _ (by omega)) (hf _ (by omega)) h3, ja_AO_c (fun q a b => hf q (by omega)) h4, fun i o hi ho => ja_RO_all (fun q a b => hf q (by have := hs i o hi ho; omega)) ((h5 i o hi ho).mono ht)⟩
theorem BO_text {mem M : ja_M} {y : Nat} {sl : Nat → Option Nat} {t t' : Int} (ht : t ≤ t') (h : ja_BO mem y sl t) (hs : ∀ i o, i < 2 → sl i = some o → y + 49 ≤ o) (hR : ja_RO M (y + 1) t') (hH : ja_HO M (y + 42)) (hA : ja_AO M (y + 44)) (hf : ∀ q, ((y + 21 ≤ q ∧ q < y + 42) ∨ y + 49 ≤ q) → M q = mem q) : ja_BO M y sl t' := by
  obtain ⟨-, ⟨t2, h2⟩, -, -, h5⟩ := h
  exact ⟨hR, ⟨t2, ja_RO_all (fun q a b => hf q (by omega)) h2⟩, hH, hA, fun i o hi ho => ja_RO_all (fun q a b => hf q (by have := hs i o hi ho; omega)) ((h5 i o hi ho).mono ht)⟩
/-- the reference's other rows, behind a call -/
def N_rf (m : Nat) (G G' : ja_M) : Prop := (∀ q, q ≠ m → q ≠ m + 2 → q ≠ m + 6 → q ≠ m + 7 → q ≠ m + 8 → G' q = G q) ∧ G' m 5 = G m 5
theorem N_rf.rf {m : Nat} {G : ja_M} : N_rf m G G := ⟨fun _ _ _ _ _ _ => rfl, rfl⟩
theorem N_ge.f {m : Nat} {G G' : ja_M} (h : N_ge m G G') : N_rf m G G' := ⟨fun q _ _ a b _ => h q a b, by rw [h m (by omega) (by omega)]⟩
theorem N_gp.f {m : Nat} {G G' : ja_M} (h : N_gp m G G') : N_rf m G G' := ⟨fun q _ a b c _ => h q a b c, by rw [h m (by omega) (by omega) (by omega)]⟩
theorem N_tG.f {m : Nat} {G : ja_M} {p tl : Int} {T : Nat → Int} : N_rf m G (N_tG G m p tl T) := ⟨fun q a _ _ _ b => N_tG_o a b, N_tG_j (by omega) (by omega)⟩
/-- a step that leaves the text and the slots -/
theorem In_step {S : S_T} (hS : S_ok S) {lay : ja_Y} {mem : ja_M} {n y : Nat} {sl : Nat → Option Nat} {t : Int} (h : L_In S lay mem n y sl t) {M1 G' : ja_M} {v' : Nat → Int} (c1 : ∀ q, y + 49 ≤ q → M1 q = mem q) (c2 : M1 (y + 42) 1 = mem (y + 42) 1) (c3 : M1 (y + 42 + 1) = mem (y + 42 + 1)) (cB : ja_BO M1 y sl (t + 500)) (hG : N_rf (y + 49) M1 G') (hO : N_O v' (t + 500)) (hs : S M1 (y + 1) v') : L_In S lay (ja_rw G' (y + 49 + 1) v') n y sl (t + 500) := by
  obtain ⟨⟨a1, a2, a3, a4, a5⟩, ⟨b1, b2, b3, b4, b5⟩, hT, hx, hsl⟩ := h
  obtain ⟨cg, -⟩ := hS
  have f1 : ∀ q, q ≠ y + 49 → q ≠ y + 49 + 1 → q ≠ y + 49 + 2 → q ≠ y + 49 + 6 → q ≠ y + 49 + 7 → q ≠ y + 49 + 8 → ja_rw G' (y + 49 + 1) v' q = M1 q := fun q d0 d1 d2 d6 d7 d8 => by rw [ja_rw_n d1]; exact hG.1 q d0 d2 d6 d7 d8
  have f5 : ja_rw G' (y + 49 + 1) v' (y + 49) 5 = mem (y + 49) 5 := by rw [ja_rw_n (by omega), hG.2, c1 _ (by omega)]
  have k3 : ja_rw G' (y + 49 + 1) v' (y + 49 + 3) = mem (y + 49 + 3) := by rw [f1 _ (by omega) (by omega) (by omega) (by omega) (by omega) (by omega), c1 _ (by omega)]
  have k4 : ja_rw G' (y + 49 + 1) v' (y + 49 + 4) = mem (y + 49 + 4) := by rw [f1 _ (by omega) (by omega) (by omega) (by omega) (by omega) (by omega), c1 _ (by omega)]
  have k5 : ja_rw G' (y + 49 + 1) v' (y + 49 + 5) = mem (y + 49 + 5) := by rw [f1 _ (by omega) (by omega) (by omega) (by omega) (by omega) (by omega), c1 _ (by omega)]
  refine ⟨⟨a1, ?_, a3, a4, a5⟩, ⟨b1, ?_, ?_, ?_, ?_⟩, ?_, ⟨?_, ?_⟩, fun s hs2 => ⟨fun q => ?_, fun o q => ?_⟩⟩
  · exact BO_cg (by omega) cB (fun q d1 d2 => f1 q (by omega) (by omega) (by omega) (by omega) (by omega) (by omega)) (fun i o q hi ho d1 d2 => f1 q (by have := a4 i o hi ho; omega) (by have := a4 i o hi ho; omega) (by have := a4 i o hi ho; omega) (by have := a4 i o hi ho; omega) (by have := a4 i o hi ho; omega) (by have := a4 i o hi ho; omega))
  · rw [ja_rw_s]
    exact hO
  · unfold N_TO
    rw [f5, k5]
    exact b3
  · rw [k4]
    exact b4
  · rw [k3, k4]
    exact fun s d1 d2 => (b5 s d1 d2).mono (by omega)
  · rw [ja_rw_s]
    exact cg M1 _ (y + 1) v' v' (fun q d1 d2 => f1 q (by omega) (by omega) (by omega) (by omega) (by omega) (by omega)) (fun _ _ => rfl) hs
  · rw [f5, f1 _ (by omega) (by omega) (by omega) (by omega) (by omega) (by omega), c2]
    exact hx.1
  · rw [f5, k5, f1 _ (by omega) (by omega) (by omega) (by omega) (by omega) (by omega), c3]
    exact hx.2
  · rw [k4]
    exact (hsl s hs2).1 q
  · obtain ⟨e1, e2⟩ := (hsl s hs2).2 o q
    have ho := a4 s o hs2 q
    rw [k3, k4]
    exact ⟨e1, cg mem _ o _ _ (fun q d1 d2 => by rw [f1 q (by omega) (by omega) (by omega) (by omega) (by omega) (by omega), c1 q (by omega)]) (fun _ _ => rfl) e2⟩
-- ranges behind each call: setters
theorem RO_set {mem M : ja_M} {b : Nat} {t : Int} (h : ja_RO mem b t) (hq : ∀ q, q ≠ b + 1 → M q = mem q) (hS : ja_SO M (b + 1)) (hv : (M (b + 1) 3 = mem (b + 1) 3 ∧ M (b + 1) 4 = mem (b + 1) 4) ∨ mem (b + 15) 4 ≤ 0) : ja_RO M b t := by
  obtain ⟨g1, g2, g3, g4, g5, g6, g7, g8, g9, g10, g11, g12⟩ := h
  have e : ∀ c, c ≠ 1 → M (b + c) = mem (b + c) := fun c hc => hq _ (by omega)
  have e0 : M b = mem b := hq b (by omega)
  refine ⟨hS, ja_TO_c (hq _ (by omega)) (hq _ (by omega)) (hq _ (by omega)) g2, ja_PO_c (hq _ (by omega)) (hq _ (by omega)) (hq _ (by omega)) (hq _ (by omega)) g3, ja_AO_c (fun q a c => hq q (by omega)) g4, ?_, by rw [e0]; exact g6, by rw [e0]; exact g7, by rw [e0]; exact g8, by rw [e0, hq (b + 9) (by omega)]; exact g9, by rw [hq (b + 14) (by omega), hq (b + 9) (by omega)]; exact g10, by rw [hq (b + 14) (by omega), hq (b + 9) (by omega)]; exact g11, by rw [hq (b + 14) (by omega), hq (b + 9) (by omega)]; exact g12⟩
  intro j hj
  rw [hq (b + 15) (by omega)] at hj
  rcases hv with ⟨h3, h4⟩ | hv
  · rw [hq (b + 15 + 1) (by omega), hq (b + 15 + 2) (by omega), hq (b + 15 + 3) (by omega)]
    have e5 : ∀ r k i, ja_hasP M (b + 1) r k i = ja_hasP mem (b + 1) r k i := fun r k i => by simp only [ja_hasP, ja_hasB, ja_cells, h3, h4]
    rw [e5]
    exact g5 j hj
  · omega
theorem SO_up {mem : ja_M} {s j : Nat} {z : Int} (h : ja_SO mem s) (hz : N_in j z) (hj : j < 9) : ja_SO (ja_up mem s j z) s := by
  obtain ⟨s0, s1, s2, s3, s4, s5, s6, s7, s8⟩ := h
  rcases (show j = 0 ∨ j = 1 ∨ j = 2 ∨ j = 3 ∨ j = 4 ∨ j = 5 ∨ j = 6 ∨ j = 7 ∨ j = 8 by omega) with rfl | rfl | rfl | rfl | rfl | rfl | rfl | rfl | rfl
  · exact ⟨by rw [ja_up_s]; exact hz, by rw [ja_up_j (by omega)]; exact s1, by rw [ja_up_j (by omega)]; exact s2, by rw [ja_up_j (by omega)]; exact s3, by rw [ja_up_j (by omega)]; exact s4, by rw [ja_up_j (by omega)]; exact s5, by rw [ja_up_j (by omega)]; exact s6, by rw [ja_up_j (by omega)]; exact s7, by rw [ja_up_j (by omega)]; exact s8⟩
  · exact ⟨by rw [ja_up_j (by omega)]; exact s0, by rw [ja_up_s]; exact hz, by rw [ja_up_j (by omega)]; exact s2, by rw [ja_up_j (by omega)]; exact s3, by rw [ja_up_j (by omega)]; exact s4, by rw [ja_up_j (by omega)]; exact s5, by rw [ja_up_j (by omega)]; exact s6, by rw [ja_up_j (by omega)]; exact s7, by rw [ja_up_j (by omega)]; exact s8⟩
  · exact ⟨by rw [ja_up_j (by omega)]; exact s0, by rw [ja_up_j (by omega)]; exact s1, by rw [ja_up_s]; exact hz, by rw [ja_up_j (by omega)]; exact s3, by rw [ja_up_j (by omega)]; exact s4, by rw [ja_up_j (by omega)]; exact s5, by rw [ja_up_j (by omega)]; exact s6, by rw [ja_up_j (by omega)]; exact s7, by rw [ja_up_j (by omega)]; exact s8⟩
  · exact ⟨by rw [ja_up_j (by omega)]; exact s0, by rw [ja_up_j (by omega)]; exact s1, by rw [ja_up_j (by omega)]; exact s2, by rw [ja_up_s]; exact hz, by rw [ja_up_j (by omega)]; exact s4, by rw [ja_up_j (by omega)]; exact s5, by rw [ja_up_j (by omega)]; exact s6, by rw [ja_up_j (by omega)]; exact s7, by rw [ja_up_j (by omega)]; exact s8⟩
  · exact ⟨by rw [ja_up_j (by omega)]; exact s0, by rw [ja_up_j (by omega)]; exact s1, by rw [ja_up_j (by omega)]; exact s2, by rw [ja_up_j (by omega)]; exact s3, by rw [ja_up_s]; exact hz, by rw [ja_up_j (by omega)]; exact s5, by rw [ja_up_j (by omega)]; exact s6, by rw [ja_up_j (by omega)]; exact s7, by rw [ja_up_j (by omega)]; exact s8⟩
  · exact ⟨by rw [ja_up_j (by omega)]; exact s0, by rw [ja_up_j (by omega)]; exact s1, by rw [ja_up_j (by omega)]; exact s2, by rw [ja_up_j (by omega)]; exact s3, by rw [ja_up_j (by omega)]; exact s4, by rw [ja_up_s]; exact hz, by rw [ja_up_j (by omega)]; exact s6, by rw [ja_up_j (by omega)]; exact s7, by rw [ja_up_j (by omega)]; exact s8⟩
  · exact ⟨by rw [ja_up_j (by omega)]; exact s0, by rw [ja_up_j (by omega)]; exact s1, by rw [ja_up_j (by omega)]; exact s2, by rw [ja_up_j (by omega)]; exact s3, by rw [ja_up_j (by omega)]; exact s4, by rw [ja_up_j (by omega)]; exact s5, by rw [ja_up_s]; exact hz, by rw [ja_up_j (by omega)]; exact s7, by rw [ja_up_j (by omega)]; exact s8⟩
  · exact ⟨by rw [ja_up_j (by omega)]; exact s0, by rw [ja_up_j (by omega)]; exact s1, by rw [ja_up_j (by omega)]; exact s2, by rw [ja_up_j (by omega)]; exact s3, by rw [ja_up_j (by omega)]; exact s4, by rw [ja_up_j (by omega)]; exact s5, by rw [ja_up_j (by omega)]; exact s6, by rw [ja_up_s]; exact hz, by rw [ja_up_j (by omega)]; exact s8⟩
  · exact ⟨by rw [ja_up_j (by omega)]; exact s0, by rw [ja_up_j (by omega)]; exact s1, by rw [ja_up_j (by omega)]; exact s2, by rw [ja_up_j (by omega)]; exact s3, by rw [ja_up_j (by omega)]; exact s4, by rw [ja_up_j (by omega)]; exact s5, by rw [ja_up_j (by omega)]; exact s6, by rw [ja_up_j (by omega)]; exact s7, by rw [ja_up_s]; exact hz⟩
/-- a setting, set where it may be -/
theorem RO_up {mem : ja_M} {b j : Nat} {t z : Int} (h : ja_RO mem b t) (hz : N_in j z) (hj : j < 9) (hv : (j ≠ 3 ∧ j ≠ 4) ∨ mem (b + 15) 4 ≤ 0) : ja_RO (ja_up mem (b + 1) j z) b t := RO_set h (fun q hq => ja_up_row hq) (SO_up h.1 hz hj) (by
  rcases hv with ⟨h3, h4⟩ | hv
  · exact Or.inl ⟨ja_up_j (by omega), ja_up_j (by omega)⟩
  · exact Or.inr hv)
theorem N_O_up {v : Nat → Int} {j : Nat} {t z : Int} (h : N_O v t) (hz : N_in j z) (hj : j < 9) (hv : (j ≠ 3 ∧ j ≠ 4) ∨ v 25 ≤ 0) : N_O (ja_rs v j z) t := by
  obtain ⟨hR, h1, hP⟩ := h
  refine ⟨hR.rs hz, ?_, ?_⟩
  · rw [ja_rs_n (show (9 : Nat) ≠ j by omega), ja_rs_n (show (10 : Nat) ≠ j by omega), ja_rs_n (show (11 : Nat) ≠ j by omega), ja_rs_n (show (12 : Nat) ≠ j by omega), ja_rs_n (show (13 : Nat) ≠ j by omega), ja_rs_n (show (14 : Nat) ≠ j by omega), ja_rs_n (show (21 : Nat) ≠ j by omega), ja_rs_n (show (22 : Nat) ≠ j by omega), ja_rs_n (show (23 : Nat) ≠ j by omega)]
    exact h1
  · intro i i0 il
    rw [ja_rs_n (by omega)] at il
    rcases hv with ⟨h3, h4⟩ | hv
    · have hp := hP i i0 il
      rw [ja_rs_n (by omega), ja_rs_n (by omega), ja_rs_n (by omega)]
      have e5 : ∀ r k c, N_hP (ja_rs v j z) r k c = N_hP v r k c := fun r k c => by simp only [N_hP, N_hB, N_ar, ja_rs_n (show (3 : Nat) ≠ j by omega), ja_rs_n (show (4 : Nat) ≠ j by omega)]
      unfold N_pe
      rw [e5]
      exact hp
    · omega
end
section
-- adding to arrivals
theorem A_all_app {mem : ja_M} {a o : Nat} (h0 : 0 ≤ mem a 4) (hao : a + 5 ≤ o ∨ o + 5 ≤ a) : ∀ k : Nat, mem a 4 + k ≤ 24 → A_all mem a o k a 4 = mem a 4 + k ∧ (∀ (c j : Nat), 1 ≤ c → c ≤ 4 → (j : Int) < mem a 4 → A_all mem a o k (a + c) j = mem (a + c) j) ∧ ∀ (c i : Nat), 1 ≤ c → c ≤ 4 → i < k → A_all mem a o k (a + c) (mem a 4 + i).toNat = mem (o + c) i
  | 0, _ => ⟨by simp [A_all], fun _ _ _ _ _ => rfl, fun _ _ _ _ h => by omega⟩
  | k + 1, hk => by
    obtain ⟨i1, i2, i3⟩ := A_all_app h0 hao k (by omega)
    have hlt : A_all mem a o k a 4 < 24 := by omega
    have hs : (A_all mem a o k a 4).toNat = (mem a 4 + k).toNat := by omega
    simp only [A_all]
    unfold A_add
    rw [if_pos hlt, hs]
    refine ⟨by rw [ja_up_s, i1]; omega, fun c j c1 c2 hj => ?_, fun c i c1 c2 hi => ?_⟩
    · rw [ja_up_x (by omega), ja_up_x (by omega), ja_up_x (by omega), ja_up_x (by omega), ja_up_x (by omega)]
      exact i2 c j c1 c2 hj
    · by_cases hik : i = k
      · subst hik
        rcases (show c = 1 ∨ c = 2 ∨ c = 3 ∨ c = 4 by omega) with rfl | rfl | rfl | rfl
        · rw [ja_up_a (by omega), ja_up_a (by omega), ja_up_a (by omega), ja_up_a (by omega), ja_up_s]
        · rw [ja_up_a (by omega), ja_up_a (by omega), ja_up_a (by omega), ja_up_s]
        · rw [ja_up_a (by omega), ja_up_a (by omega), ja_up_s]
        · rw [ja_up_a (by omega), ja_up_s]
      · rw [ja_up_x (by omega), ja_up_x (by omega), ja_up_x (by omega), ja_up_x (by omega), ja_up_x (by omega)]
        exact i3 c i c1 c2 (by omega)
theorem B_cas_all {m : ja_M} {y : Nat} : ∀ (r i : Nat), ¬ B_cas m y r i = 0 → ∀ j, i ≤ j → j < i + r → B_ca m y j
  | 0, i, _, j, h1, h2 => by omega
  | r + 1, i, h, j, h1, h2 => by
    simp only [B_cas] at h
    by_cases hc : B_ca m y i
    · rw [if_pos hc] at h
      by_cases hj : j = i
      · subst hj
        exact hc
      · exact B_cas_all r (i + 1) h j (by omega) (by omega)
    · rw [if_neg hc] at h
      exact absurd rfl h
theorem N_cas_all {v T : Nat → Int} : ∀ (r i : Nat), ¬ N_cas v T r i = 0 → ∀ j, i ≤ j → j < i + r → N_ia v T (j : Int)
  | 0, i, _, j, h1, h2 => by omega
  | r + 1, i, h, j, h1, h2 => by
    simp only [N_cas] at h
    by_cases hc : N_ia v T (i : Int)
    · rw [if_pos hc] at h
      by_cases hj : j = i
      · subst hj
        exact hc
      · exact N_cas_all r (i + 1) h j (by omega) (by omega)
    · rw [if_neg hc] at h
      exact absurd rfl h
theorem A_app_RO {M : ja_M} {y : Nat} {t : Int} (hM : ja_RO M (y + 1) t) (hA : ja_AO M (y + 44)) (hca : ¬ B_cas M y (M (y + 44) 4).toNat 0 = 0) (hle : M (y + 1 + 15) 4 + M (y + 44) 4 ≤ 24) : ja_RO (A_all M (y + 1 + 15) (y + 44) (M (y + 44) 4).toNat) (y + 1) t := by
  obtain ⟨g1, g2, g3, g4, g5, g6, g7, g8, g9, g10, g11, g12⟩ := hM
  have h4 := hA.1
  obtain ⟨e1, e2, e3⟩ := A_all_app (mem := M) (a := y + 1 + 15) (o := y + 44) g4.1.1 (by omega) (M (y + 44) 4).toNat (by omega)
  have ho : ∀ q, (q < y + 1 + 15 ∨ y + 1 + 15 + 5 ≤ q) → A_all M (y + 1 + 15) (y + 44) (M (y + 44) 4).toNat q = M q := fun q hq => A_all_o hq _
  have hAA := A_all_AO g4 hA (M (y + 44) 4).toNat
  generalize A_all M (y + 1 + 15) (y + 44) (M (y + 44) 4).toNat = W at *
  refine ⟨ja_SO_c (ho _ (by omega)) g1, ja_TO_c (ho _ (by omega)) (ho _ (by omega)) (ho _ (by omega)) g2, ja_PO_c (ho _ (by omega)) (ho _ (by omega)) (ho _ (by omega)) (ho _ (by omega)) g3, hAA, ?_, by rw [ho _ (by omega)]; exact g6, by rw [ho _ (by omega)]; exact g7, by rw [ho _ (by omega)]; exact g8, by rw [ho (y + 1 + 9) (by omega), ho (y + 1) (by omega)]; exact g9, by rw [ho (y + 1 + 14) (by omega), ho (y + 1 + 9) (by omega)]; exact g10, by rw [ho (y + 1 + 14) (by omega), ho (y + 1 + 9) (by omega)]; exact g11, by rw [ho (y + 1 + 14) (by omega), ho (y + 1 + 9) (by omega)]; exact g12⟩
  intro j hj
  rw [e1] at hj
  have e5 : ∀ r k i, ja_hasP W (y + 1 + 1) r k i = ja_hasP M (y + 1 + 1) r k i := fun r k i => by simp only [ja_hasP, ja_hasB, ja_cells, ho (y + 1 + 1) (by omega)]
  by_cases hjo : (j : Int) < M (y + 1 + 15) 4
  · rw [e2 1 j (by omega) (by omega) hjo, e2 2 j (by omega) (by omega) hjo, e2 3 j (by omega) (by omega) hjo, e5]
    exact g5 j hjo
  · have g0 := g4.1.1
    have hi : j = (M (y + 1 + 15) 4 + ((j - (M (y + 1 + 15) 4).toNat : Nat) : Int)).toNat := by omega
    have f1 := e3 1 (j - (M (y + 1 + 15) 4).toNat) (by omega) (by omega) (by omega)
    have f2 := e3 2 (j - (M (y + 1 + 15) 4).toNat) (by omega) (by omega) (by omega)
    have f3 := e3 3 (j - (M (y + 1 + 15) 4).toNat) (by omega) (by omega) (by omega)
    rw [← hi] at f1 f2 f3
    have hb := B_cas_all _ _ hca (j - (M (y + 1 + 15) 4).toNat) (by omega) (by omega)
    rw [f1, f2, f3, e5]
    obtain ⟨-, hb2⟩ := hb
    refine ⟨fun q => ?_, fun q => ?_⟩
    · rw [if_pos q] at hb2
      exact hb2.2
    · rw [if_neg q] at hb2
      exact hb2
theorem B_sc_RO {mem : ja_M} {y : Nat} {t : Int} (hR : ja_RO mem (y + 1) t) (hH : ja_HO mem (y + 42)) (hA : ja_AO mem (y + 44)) : ja_RO (B_sc mem y).2 (y + 1) t ∧ ja_HO (B_sc mem y).2 (y + 42) ∧ ja_AO (B_sc mem y).2 (y + 44) := by
  obtain ⟨r1, r2, r3⟩ := B_rd_all hH hA
  have hM : ja_RO (B_rd mem y).2 (y + 1) t := ja_RO_all (fun q a b => r3 q (by omega)) hR
  unfold B_sc
  split
  · split
    · exact ⟨hM, r2, r1⟩
    · rename_i hca
      split
      · exact ⟨hM, r2, r1⟩
      · rename_i hle
        dsimp only
        exact ⟨A_app_RO hM r1 hca (by omega), ja_HO_c (A_all_o (by omega) _) (A_all_o (by omega) _) r2, ja_AO_c (fun q a b => A_all_o (by omega) _) r1⟩
  · exact ⟨hM, r2, r1⟩
-- the reference's schedule
theorem T_in {T : Nat → Int} {tl : Int} (hT : ∀ i : Int, 0 ≤ i → i < tl → N_tr T i) (c : Nat) (hc : (c : Int) < 4 * tl) : 0 ≤ T c ∧ T c ≤ 9999 := by
  obtain ⟨⟨a0, a1⟩, ⟨b0, b1⟩, ⟨c0, c1⟩, d0, d1⟩ := hT ((c / 4 : Nat) : Int) (by omega) (by omega)
  rcases (show c % 4 = 0 ∨ c % 4 = 1 ∨ c % 4 = 2 ∨ c % 4 = 3 by omega) with h | h | h | h
  · rw [show (4 * ((c / 4 : Nat) : Int)).toNat = c by omega] at a0 a1
    omega
  · rw [show (4 * ((c / 4 : Nat) : Int) + 1).toNat = c by omega] at b0 b1
    omega
  · rw [show (4 * ((c / 4 : Nat) : Int) + 2).toNat = c by omega] at c0 c1
    omega
  · rw [show (4 * ((c / 4 : Nat) : Int) + 3).toNat = c by omega] at d0 d1
    omega
theorem N_cpp_R {v T : Nat → Int} {tl : Int} (hR : N_R v) (hT : ∀ i : Int, 0 ≤ i → i < tl → N_tr T i) (h24 : v 25 + tl ≤ 24) : ∀ c : Nat, (c : Int) ≤ 4 * tl → N_R (N_cpp v T c)
  | 0, _ => hR
  | c + 1, hc => by
    have h25 := hR.C
    have ht := T_in hT c (by omega)
    simp only [N_cpp]
    exact (N_cpp_R hR hT h24 c (by omega)).rs ((N_inP (by omega)).mpr ht)
theorem N_sd_O {v T : Nat → Int} {tl t : Int} (hO : N_O v t) (h0 : 0 ≤ tl) (h24 : v 25 + tl ≤ 24) (hT : ∀ i : Int, 0 ≤ i → i < tl → N_tr T i) (hia : ∀ i : Int, 0 ≤ i → i < tl → N_ia v T i) : N_O (N_sd v T tl) t := by
  obtain ⟨hR, h1, hP⟩ := hO
  have hC := hR.C
  have h25 : 0 ≤ v 25 := by omega
  have hn : ∀ q : Nat, q < 2388 → q ≠ 25 → N_sd v T tl q = v q := fun q a b => by
    unfold N_sd
    rw [ja_rs_n b]
    exact N_cpp_n h25 _ (by omega)
  refine ⟨(N_cpp_R hR hT h24 _ (by omega)).rs (show 0 ≤ v 25 + tl ∧ v 25 + tl ≤ 24 by omega), ?_, ?_⟩
  · rw [hn 9 (by omega) (by omega), hn 10 (by omega) (by omega), hn 11 (by omega) (by omega), hn 12 (by omega) (by omega), hn 13 (by omega) (by omega), hn 14 (by omega) (by omega), hn 21 (by omega) (by omega), hn 22 (by omega) (by omega), hn 23 (by omega) (by omega)]
    exact h1
  · intro j j0 jl
    have e25 : N_sd v T tl 25 = v 25 + tl := by
      unfold N_sd
      rw [ja_rs_s]
    rw [e25] at jl
    have eP : ∀ r k i, N_hP (N_sd v T tl) r k i = N_hP v r k i := fun r k i => by simp only [N_hP, N_hB, N_ar, hn 3 (by omega) (by omega), hn 4 (by omega) (by omega)]
    unfold N_pe
    rw [eP]
    by_cases hj : j < v 25
    · have hq : ∀ q : Int, 0 ≤ q → q < 4 → N_sd v T tl (2388 + 4 * j + q).toNat = v (2388 + 4 * j + q).toNat := fun q q0 q4 => by
        unfold N_sd
        rw [ja_rs_n (by omega)]
        exact N_cpp_n h25 _ (by omega)
      have e0 := hq 0 (by omega) (by omega)
      rw [show (2388 + 4 * j + 0 : Int) = 2388 + 4 * j by omega] at e0
      rw [e0, hq 1 (by omega) (by omega), hq 2 (by omega) (by omega)]
      exact hP j j0 hj
    · have hq : ∀ q : Nat, q < 4 → N_sd v T tl (2388 + 4 * j + q).toNat = T (4 * (j - v 25) + q).toNat := fun q q4 => by
        unfold N_sd
        rw [ja_rs_n (by omega)]
        have := N_cpp_s (v := v) (T := T) h25 (4 * tl).toNat (4 * (j - v 25) + q).toNat (by omega)
        rw [← this]
        congr 1
        omega
      have e0 := hq 0 (by omega)
      have e1 := hq 1 (by omega)
      have e2 := hq 2 (by omega)
      rw [show (2388 + 4 * j + ((0 : Nat) : Int)) = 2388 + 4 * j by omega, show (4 * (j - v 25) + ((0 : Nat) : Int)) = 4 * (j - v 25) by omega] at e0
      rw [show (2388 + 4 * j + ((1 : Nat) : Int)) = 2388 + 4 * j + 1 by omega, show (4 * (j - v 25) + ((1 : Nat) : Int)) = 4 * (j - v 25) + 1 by omega] at e1
      rw [show (2388 + 4 * j + ((2 : Nat) : Int)) = 2388 + 4 * j + 2 by omega, show (4 * (j - v 25) + ((2 : Nat) : Int)) = 4 * (j - v 25) + 2 by omega] at e2
      rw [e0, e1, e2]
      have ha := hia (j - v 25) (by omega) (by omega)
      have hb := (hT (j - v 25) (by omega) (by omega)).1
      obtain ⟨ha1, -⟩ := ha
      refine ⟨hb, fun q => ?_, fun q => ?_⟩
      · rw [if_pos q] at ha1
        exact ha1.2
      · rw [if_neg q] at ha1
        exact ha1
theorem N_sw_O {v : Nat → Int} {t : Int} {G : ja_M} {m : Nat} (hO : N_O v t) (hTO : N_TO G m) : N_O (N_sw v (N_rdt G m)) t := by
  obtain ⟨x1, x2, x3, x4⟩ := @N_tx_p (G (m + 5)) (G m 5) 25 0 0 (G (m + 8)) (by omega) (by omega) hTO.1.1 (by omega) (fun i i0 i1 => by omega)
  rw [show N_tx (G (m + 5)) (G m 5) 25 0 0 (G (m + 8)) = N_rdt G m from rfl] at x1 x2 x3 x4
  unfold N_sw
  split
  · exact hO
  · split
    · exact hO
    · rename_i h1 hca
      split
      · exact hO
      · obtain ⟨y1, y2⟩ := x4 (by omega)
        refine N_sd_O hO x3.1 (by omega) y2 (fun i i0 i1 => ?_)
        have := N_cas_all _ _ hca i.toNat (by omega) (by omega)
        rw [show ((i.toNat : Nat) : Int) = i by omega] at this
        exact this
theorem N_sw_n {v : Nat → Int} {E : N_E} {q : Nat} (h25 : 0 ≤ v 25) (hq : q < 2388) (hn : q ≠ 25) : N_sw v E q = v q := by
  unfold N_sw
  split
  · rfl
  · split
    · rfl
    · split
      · rfl
      · unfold N_sd
        rw [ja_rs_n hn]
        exact N_cpp_n h25 _ (by omega)
-- predictions keep the forecast's ranges
theorem B_gap_RO {b : Nat} {c : Int} : ∀ (r i : Nat) (m : ja_M) (t : Int), ja_RO m b t → t + r ≤ 900001 → ∃ t2, ja_RO (B_gap b c r i m).2 b t2
  | 0, _, m, t, h, _ => ⟨t, h⟩
  | r + 1, i, m, t, h, ht => by
    have h1 := R_tk_RO h (by omega)
    simp only [B_gap]
    split
    · exact ⟨_, h1⟩
    · exact B_gap_RO r (i + 1) _ _ h1 (by omega)
theorem B_fra_RO {b : Nat} {x : Int} : ∀ (r i : Nat) (m : ja_M) (t : Int), ja_RO m b t → t + r ≤ 900001 → ∃ t2, ja_RO (B_fra b x r i m).2 b t2
  | 0, _, m, t, h, _ => ⟨t, h⟩
  | r + 1, i, m, t, h, ht => by
    have h1 := R_tk_RO h (by omega)
    simp only [B_fra]
    split
    · exact ⟨_, h1⟩
    · exact B_fra_RO r (i + 1) _ _ h1 (by omega)
-- a tie holds while time passes
theorem S_adv {S : S_T} (hS : S_tk S) {mem : ja_M} {b : Nat} {v : Nat → Int} {t : Int} (hR : ja_RO mem b t) (hO : N_O v t) (h : S mem b v) : ∀ k : Nat, t + k ≤ 900001 → S (B_adv mem b k) b (N_ad v k)
  | 0, _ => h
  | k + 1, hk => hS _ b _ (t + k) (B_adv_RO hR k (by omega)) (N_ad_O hO k (by omega)) (by omega) (S_adv hS hR hO h k (by omega))
-- THE SMALL TIE: time, quantile, margin, adapting
def S0 : S_T := fun mem b v => mem b 6 = v 9 ∧ ∀ j, 6 ≤ j → j < 9 → mem (b + 1) j = v j
theorem R_tk_6 {mem : ja_M} {b : Nat} : R_tk mem b b 6 = mem b 6 + 1 := by
  have e : R_due mem b b = R_du mem b (mem (b + 15) 4).toNat b := by
    unfold R_due
    exact A_rem_o (by omega) _
  unfold R_tk
  rw [ja_up_s, R_pl_o (by omega), e, R_du_6]
theorem R_tk_1 {mem : ja_M} {b : Nat} : R_tk mem b (b + 1) = mem (b + 1) := by
  unfold R_tk
  rw [ja_up_row (by omega), R_pl_o (by omega)]
  unfold R_due
  rw [A_rem_o (by omega), R_du_o (by omega)]
theorem N_pl_n {a : Nat → Int} {t : Int} (h : N_O a t) {j : Nat} (hj : j < 11) : N_pl a j = a j := by
  obtain ⟨h2, h3⟩ := N_t2_O h
  have hC := h2.1.C
  unfold N_pl
  split
  · unfold N_t3
    split
    · rw [ja_rs_n (by omega), ja_rs_n (by omega), ja_rs_n (by omega)]
      exact h3 j hj
    · exact h3 j hj
  · rfl
theorem N_ti_n {v : Nat → Int} {t : Int} (h : N_O v t) (ht : t ≤ 900000) {j : Nat} (hj : j < 9) : N_ti v j = v j := by
  have h1 := N_t1_O h ht
  unfold N_ti
  rw [ja_rs_n (by omega), N_pl_n h1 (by omega)]
  unfold N_t1
  rw [ja_rs_n (by omega)]
  exact (N_as_O h ht).2 j (by omega) (by omega)
theorem N_ti_9 {v : Nat → Int} {t : Int} (h : N_O v t) (ht : t ≤ 900000) : N_ti v 9 = v 9 + 1 := by
  have h1 := N_t1_O h ht
  unfold N_ti
  rw [ja_rs_s, N_pl_n h1 (by omega)]
  unfold N_t1
  rw [ja_rs_n (by omega), (N_as_O h ht).2 9 (by omega) (by omega)]
theorem S0_ok : S_ok S0 := by
  refine ⟨?_, ?_, ?_, ?_, ?_, ?_, ?_, ?_, ?_, ?_⟩
  · intro mem mem' b v v' hm hv h
    refine ⟨by rw [hm b (by omega) (by omega), hv 9 (by omega)]; exact h.1, fun j h6 h9 => by rw [hm (b + 1) (by omega) (by omega), hv j (by omega)]; exact h.2 j h6 h9⟩
  · intro mem mem' b o v t hR he h
    obtain ⟨e1, -, -, -, -, -, -, -, -, -, -, e12, -⟩ := he
    exact ⟨e12.trans h.1, fun j h6 h9 => (e1 j h9).trans (h.2 j h6 h9)⟩
  · intro mem b v t P _ j z hj hR hO h
    refine ⟨?_, fun i h6 h9 => ?_⟩
    · split <;> split <;> (try rw [ja_up_a (by omega)]) <;> (try rw [ja_rs_n (by omega)]) <;> exact h.1
    · split <;> split <;> (try rw [ja_up_j (by omega)]) <;> (try rw [ja_rs_n (by omega)]) <;> exact h.2 i h6 h9
  · intro mem b v t P _ j i z w hj hi hR hO h
    refine ⟨?_, fun c h6 h9 => ?_⟩
    · split <;> split <;> (try rw [ja_up_a (by omega), ja_up_a (by omega)]) <;> (try rw [ja_rs_n (by omega), ja_rs_n (by omega)]) <;> exact h.1
    · split <;> split <;> (try rw [ja_up_j (by omega), ja_up_j (by omega)]) <;> (try rw [ja_rs_n (by omega), ja_rs_n (by omega)]) <;> exact h.2 c h6 h9
  · intro mem b v P _ j z h6 h9 h
    refine ⟨?_, fun c g6 g9 => ?_⟩
    · split
      · rw [ja_up_a (by omega), ja_rs_n (by omega)]
        exact h.1
      · exact h.1
    · split
      · by_cases hc : c = j
        · subst hc
          rw [ja_up_s, ja_rs_s]
        · rw [ja_up_j hc, ja_rs_n hc]
          exact h.2 c g6 g9
      · exact h.2 c g6 g9
  · intro mem b v t x hR hO ht hx h
    have hk := (N_av_O hO ht hx).2
    refine ⟨by rw [R_af_6, hk 9 (by omega) (by omega)]; exact h.1, fun j h6 h9 => by rw [R_af_o (by omega), hk j (by omega) (by omega)]; exact h.2 j h6 h9⟩
  · intro mem b v t r k i hR hO ht hr h
    refine ⟨?_, fun j h6 h9 => ?_⟩
    · split <;> split <;> (try rw [R_ap_6]) <;> first | exact h.1 | (rename_i hp; rw [(N_qv_O hO ht hp.1 (N_hP_6 hO.1.S hp)).2 9 (by omega) (by omega)]; exact h.1)
    · split <;> split <;> (try rw [R_ap_o (by omega)]) <;> first | exact h.2 j h6 h9 | (rename_i hp; rw [(N_qv_O hO ht hp.1 (N_hP_6 hO.1.S hp)).2 j (by omega) (by omega)]; exact h.2 j h6 h9)
  · intro mem b v t hR hO ht h
    exact ⟨by rw [R_tk_6, N_ti_9 hO ht, h.1], fun j h6 h9 => by rw [R_tk_1, N_ti_n hO ht h9]; exact h.2 j h6 h9⟩
  · intro mem G y m v t hR hH hA hO hT hx h
    have h25 := hO.1.C
    exact ⟨by rw [B_sc_f hH hA (by omega), N_sw_n (by omega) (by omega) (by omega)]; exact h.1, fun j h6 h9 => by rw [B_sc_f hH hA (by omega), N_sw_n (by omega) (by omega) (by omega)]; exact h.2 j h6 h9⟩
  · intro mem b h
    obtain ⟨-, -, -, -, -, -, s6, s7, s8⟩ := h.1
    refine ⟨(h.2 b 6 (by omega) (by omega) (by omega)).trans rfl, fun j h6 h9 => ?_⟩
    rcases (show j = 6 ∨ j = 7 ∨ j = 8 by omega) with rfl | rfl | rfl
    · exact s6
    · exact s7
    · exact s8
end
section
-- reading leaves the text
theorem B_rd_x {mem : ja_M} {y : Nat} (hH : ja_HO mem (y + 42)) (hA : ja_AO mem (y + 44)) : (B_rd mem y).2 (y + 42) 1 = mem (y + 42) 1 ∧ (B_rd mem y).2 (y + 42 + 1) = mem (y + 42 + 1) := by
  obtain ⟨h1, h2, h3, h4, h5, h6⟩ := X_lp_all (f := mem (y + 42 + 1)) (x := y + 42) (o := y + 44) (ln := mem (y + 42) 1) (by omega) (mem (y + 42) 1).toNat 0 _ (HO_XO hH (by omega)) (AO_0 hA (by omega))
  exact ⟨h3.trans (by rw [ja_up_j (by omega), ja_up_a (by omega)]), (h2 _ (by omega) (by omega)).trans (by rw [ja_up_row (by omega), ja_up_row (by omega)])⟩
theorem B_sc_x {mem : ja_M} {y : Nat} (hH : ja_HO mem (y + 42)) (hA : ja_AO mem (y + 44)) : (B_sc mem y).2 (y + 42) 1 = mem (y + 42) 1 ∧ (B_sc mem y).2 (y + 42 + 1) = mem (y + 42 + 1) := by
  have hr := B_rd_x hH hA
  unfold B_sc
  split
  · split
    · exact hr
    · split
      · exact hr
      · dsimp only
        rw [A_all_o (by omega), A_all_o (by omega)]
        exact hr
  · exact hr
theorem N_TO_c {G M : ja_M} {m : Nat} (h0 : M m 5 = G m 5) (h5 : M (m + 5) = G (m + 5)) (h : N_TO G m) : N_TO M m := by
  unfold N_TO
  rw [h0, h5]
  exact h
/-- a step of the text -/
theorem In_text {S : S_T} (hS : S_ok S) {lay : ja_Y} {mem : ja_M} {n y : Nat} {sl : Nat → Option Nat} {t : Int} (h : L_In S lay mem n y sl t) {M1 G' : ja_M} (c1 : ∀ q, (q < y + 42 ∨ y + 44 ≤ q) → M1 q = mem q) (cH : ja_HO M1 (y + 42)) (hG : ∀ q, q ≠ y + 49 → q ≠ y + 49 + 5 → G' q = M1 q) (hT : N_TO G' (y + 49)) (hx : L_x M1 y G' (y + 49)) : L_In S lay (ja_rw G' (y + 49 + 1) (mem (y + 49 + 1))) n y sl (t + 500) := by
  obtain ⟨⟨a1, a2, a3, a4, a5⟩, ⟨b1, b2, b3, b4, b5⟩, hTt, -, hsl⟩ := h
  obtain ⟨cg, -⟩ := hS
  have f1 : ∀ q, q ≠ y + 49 → q ≠ y + 49 + 1 → q ≠ y + 49 + 5 → ja_rw G' (y + 49 + 1) (mem (y + 49 + 1)) q = M1 q := fun q d0 d1 d5 => by rw [ja_rw_n d1]; exact hG q d0 d5
  have f2 : ∀ q, (q < y + 42 ∨ y + 44 ≤ q) → q ≠ y + 49 → q ≠ y + 49 + 1 → q ≠ y + 49 + 5 → ja_rw G' (y + 49 + 1) (mem (y + 49 + 1)) q = mem q := fun q d d0 d1 d5 => (f1 q d0 d1 d5).trans (c1 q d)
  have f5 : ja_rw G' (y + 49 + 1) (mem (y + 49 + 1)) (y + 49) = G' (y + 49) := ja_rw_n (by omega)
  have k5 : ja_rw G' (y + 49 + 1) (mem (y + 49 + 1)) (y + 49 + 5) = G' (y + 49 + 5) := ja_rw_n (by omega)
  have k3 := f2 (y + 49 + 3) (by omega) (by omega) (by omega) (by omega)
  have k4 := f2 (y + 49 + 4) (by omega) (by omega) (by omega) (by omega)
  obtain ⟨h1, ⟨t2, h2⟩, h3, h4, h5⟩ := a2
  refine ⟨⟨a1, ⟨ja_RO_all (fun q d1 d2 => f2 q (by omega) (by omega) (by omega) (by omega)) (h1.mono (by omega)), ⟨t2, ja_RO_all (fun q d1 d2 => f2 q (by omega) (by omega) (by omega) (by omega)) h2⟩, ja_HO_c (f1 _ (by omega) (by omega) (by omega)) (f1 _ (by omega) (by omega) (by omega)) cH, ja_AO_c (fun q d1 d2 => f2 q (by omega) (by omega) (by omega) (by omega)) h4, fun i o hi ho => ja_RO_all (fun q d1 d2 => f2 q (by have := a4 i o hi ho; omega) (by have := a4 i o hi ho; omega) (by have := a4 i o hi ho; omega) (by have := a4 i o hi ho; omega)) ((h5 i o hi ho).mono (by omega))⟩, a3, a4, a5⟩, ⟨b1, ?_, ?_, ?_, ?_⟩, ?_, ⟨?_, ?_⟩, fun s hs2 => ⟨fun q => ?_, fun o q => ?_⟩⟩
  · rw [ja_rw_s]
    exact b2.mono (by omega)
  · exact N_TO_c (by rw [f5]) k5 hT
  · rw [k4]
    exact b4
  · rw [k3, k4]
    exact fun s d1 d2 => (b5 s d1 d2).mono (by omega)
  · rw [ja_rw_s]
    exact cg mem _ (y + 1) _ _ (fun q d1 d2 => f2 q (by omega) (by omega) (by omega) (by omega)) (fun _ _ => rfl) hTt
  · rw [f5, f1 _ (by omega) (by omega) (by omega)]
    exact hx.1
  · rw [f5, k5, f1 _ (by omega) (by omega) (by omega)]
    exact hx.2
  · rw [k4]
    exact (hsl s hs2).1 q
  · obtain ⟨e1, e2⟩ := (hsl s hs2).2 o q
    have ho := a4 s o hs2 q
    rw [k3, k4]
    exact ⟨e1, cg mem _ o _ _ (fun q d1 d2 => f2 q (by omega) (by omega) (by omega) (by omega)) (fun _ _ => rfl) e2⟩
theorem In_append {S : S_T} (hS : S_ok S) {lay : ja_Y} {mem : ja_M} {n y : Nat} {sl : Nat → Option Nat} {t k : Int} (h : L_In S lay mem n y sl t) {M1 : ja_M} (e : (if 32 ≤ k ∧ k ≤ 126 ∧ mem (y + 42) 1 < 120 then ja_up (ja_up mem (y + 42 + 1) (mem (y + 42) 1).toNat k) (y + 42) 1 (mem (y + 42) 1 + 1) else mem) = M1) : L_In S lay (ja_rw (if 32 ≤ k ∧ k ≤ 126 ∧ ¬ M1 (y + 49) 5 = 120 then ja_up (ja_up M1 (y + 49 + 5) (M1 (y + 49) 5).toNat k) (y + 49) 5 (M1 (y + 49) 5 + 1) else M1) (y + 49 + 1) (mem (y + 49 + 1))) n y sl (t + 500) := by
  have hx := h.2.2.2.1
  have hH := h.1.2.1.2.2.1
  have hT := h.2.1.2.2.1
  obtain ⟨x1, x2⟩ := hx
  obtain ⟨h1, hch, h5, h6, h7⟩ := id hH
  obtain ⟨t1, t2⟩ := id hT
  by_cases hc : 32 ≤ k ∧ k ≤ 126 ∧ mem (y + 42) 1 < 120
  · rw [if_pos hc] at e
    have e49 : M1 (y + 49) = mem (y + 49) := by rw [← e, ja_up_row (by omega), ja_up_row (by omega)]
    have e54 : M1 (y + 49 + 5) = mem (y + 49 + 5) := by rw [← e, ja_up_row (by omega), ja_up_row (by omega)]
    have e42 : M1 (y + 42) 1 = mem (y + 42) 1 + 1 := by rw [← e, ja_up_s]
    have e43 : ∀ j, M1 (y + 42 + 1) j = if j = (mem (y + 42) 1).toNat then k else mem (y + 42 + 1) j := fun j => by
      rw [← e, ja_up_a (by omega)]
      by_cases hj : j = (mem (y + 42) 1).toNat
      · rw [if_pos hj, hj, ja_up_s]
      · rw [if_neg hj, ja_up_j hj]
    rw [if_pos ⟨hc.1, hc.2.1, by rw [e49]; omega⟩]
    refine In_text hS h (M1 := M1) (fun q hq => by rw [← e, ja_up_row (by omega), ja_up_row (by omega)]) ⟨by rw [e42]; omega, fun j => ?_, ?_, ?_, ?_⟩ (fun q d0 d5 => by rw [ja_up_row d0, ja_up_row d5]) ⟨?_, fun j => ?_⟩ ⟨?_, fun j hj => ?_⟩
    · rw [e43]
      split
      · omega
      · exact hch j
    · rw [← e, ja_up_j (by omega), ja_up_a (by omega)]
      exact h5
    · rw [← e, ja_up_j (by omega), ja_up_a (by omega)]
      exact h6
    · rw [← e, ja_up_j (by omega), ja_up_a (by omega)]
      exact h7
    · rw [ja_up_s, e49]
      omega
    · rw [ja_up_a (by omega), e49]
      by_cases hj : j = (mem (y + 49) 5).toNat
      · rw [hj, ja_up_s]
        omega
      · rw [ja_up_j hj, e54]
        exact t2 j
    · rw [ja_up_s, e42, e49, x1]
    · rw [ja_up_s, e49] at hj
      rw [ja_up_a (by omega), e49, e43]
      by_cases hjj : j = (mem (y + 49) 5).toNat
      · rw [if_pos (by omega), hjj, ja_up_s]
      · rw [if_neg (by omega), ja_up_j hjj, e54]
        exact x2 j (by omega)
  · rw [if_neg hc] at e
    subst e
    rw [if_neg (fun q => hc ⟨q.1, q.2.1, by omega⟩)]
    exact In_text hS h (fun _ _ => rfl) hH (fun _ _ _ => rfl) hT ⟨x1, x2⟩
theorem In_clear {S : S_T} (hS : S_ok S) {lay : ja_Y} {mem : ja_M} {n y : Nat} {sl : Nat → Option Nat} {t : Int} (h : L_In S lay mem n y sl t) {M1 : ja_M} (e : ja_up mem (y + 42) 1 0 = M1) : L_In S lay (ja_rw (ja_up M1 (y + 49) 5 0) (y + 49 + 1) (mem (y + 49 + 1))) n y sl (t + 500) := by
  have hx := h.2.2.2.1
  have hH := h.1.2.1.2.2.1
  have hT := h.2.1.2.2.1
  obtain ⟨h1, hch, h5, h6, h7⟩ := id hH
  subst e
  refine In_text hS h (M1 := ja_up mem (y + 42) 1 0) (G' := ja_up (ja_up mem (y + 42) 1 0) (y + 49) 5 0) (fun q hq => by rw [ja_up_row (by omega)]) ⟨by rw [ja_up_s]; omega, fun j => by rw [ja_up_a (by omega)]; exact hch j, by rw [ja_up_j (by omega)]; exact h5, by rw [ja_up_j (by omega)]; exact h6, by rw [ja_up_j (by omega)]; exact h7⟩ (fun q d0 d5 => by rw [ja_up_row d0]) ⟨by rw [ja_up_s]; omega, fun j => by rw [ja_up_a (by omega), ja_up_a (by omega)]; exact hT.2 j⟩ ⟨by rw [ja_up_s, ja_up_s], fun j hj => by rw [ja_up_s] at hj; omega⟩
-- slots
theorem N_kr_at {g v : Nat → Int} {s j : Nat} {k : Int} (hk : k = (s : Int)) (hj : j < 2484) : N_kr g v k 2484 (2484 * s + j) = v j := by
  subst hk
  unfold N_kr
  rw [if_pos (by omega)]
  congr 1
  omega
theorem N_kr_ne {g v : Nat → Int} {s j : Nat} {k : Int} (h0 : 0 ≤ k) (hk : k ≠ (s : Int)) (hj : j < 2484) : N_kr g v k 2484 (2484 * s + j) = g (2484 * s + j) := by
  unfold N_kr
  rw [if_neg]
  intro q
  omega
/-- a receiver is kept -/
theorem In_keep {S : S_T} (hS : S_ok S) {lay lay1 : ja_Y} {mem : ja_M} {n n1 y o : Nat} {sl sl1 : Nat → Option Nat} {t k : Int} (h : L_In S lay mem n y sl t) (hk : 0 ≤ k ∧ k ≤ 1) {m0 M1 : ja_M} (e : M1 = R_cp m0 o (y + 1)) (hm0 : ∀ q, q < n → m0 q = mem q) (hn1 : n ≤ n1) (ho : y + 58 ≤ o ∧ o + 20 ≤ n1) (hRo : ∃ t2, ja_RO m0 o t2) (hlB : ja_LB lay1 y sl1) (hlM : ja_LM lay1 (y + 49)) (hsk : sl1 k.toNat = some o) (hso : ∀ s : Nat, s < 2 → (s : Int) ≠ k → sl1 s = sl s) (hdis : ∀ (s o' : Nat), s < 2 → (s : Int) ≠ k → sl s = some o' → o' + 20 ≤ o ∨ o + 20 ≤ o') : L_In S lay1 (ja_rw (ja_up (ja_rw M1 (y + 49 + 3) (N_kr (M1 (y + 49 + 3)) (mem (y + 49 + 1)) k 2484)) (y + 49 + 4) k.toNat 1) (y + 49 + 1) (mem (y + 49 + 1))) n1 y sl1 (t + 500) := by
  obtain ⟨⟨a1, a2, a3, a4, a5⟩, ⟨b1, b2, b3, b4, b5⟩, hT, hx, hsl⟩ := h
  obtain ⟨cg, cy, -⟩ := hS
  obtain ⟨h1, ⟨t2, h2⟩, h3, h4, h5⟩ := a2
  obtain ⟨t3, hRo⟩ := hRo
  have hR0 : ja_RO m0 (y + 1) t := ja_RO_all (fun q d1 d2 => hm0 q (by omega)) h1
  have hfr : ∀ q, (q < o ∨ o + 20 ≤ q) → q < n → M1 q = mem q := fun q d1 d2 => by rw [e, R_cp_o (by omega), hm0 q d2]
  have hcp := R_cp_RO hR0 hRo (by omega)
  have heq := R_cp_eq (mem := m0) (b := o) (o := y + 1) (by omega) hR0.2.2.2.1.1
  have hS0 : S m0 (y + 1) (mem (y + 49 + 1)) := cg mem m0 _ _ _ (fun q d1 d2 => hm0 q (by omega)) (fun _ _ => rfl) hT
  have hSo : S M1 o (mem (y + 49 + 1)) := by
    rw [e]
    exact cy m0 _ o (y + 1) _ t hR0 heq hS0
  rw [← e] at hcp
  generalize hW : ja_rw (ja_up (ja_rw M1 (y + 49 + 3) (N_kr (M1 (y + 49 + 3)) (mem (y + 49 + 1)) k 2484)) (y + 49 + 4) k.toNat 1) (y + 49 + 1) (mem (y + 49 + 1)) = W
  have w1 : W (y + 49 + 1) = mem (y + 49 + 1) := by rw [← hW, ja_rw_s]
  have w3 : W (y + 49 + 3) = N_kr (mem (y + 49 + 3)) (mem (y + 49 + 1)) k 2484 := by rw [← hW, ja_rw_n (by omega), ja_up_row (by omega), ja_rw_s, hfr _ (by omega) (by omega)]
  have w4 : ∀ j, W (y + 49 + 4) j = if j = k.toNat then 1 else mem (y + 49 + 4) j := fun j => by
    rw [← hW, ja_rw_n (by omega)]
    by_cases hj : j = k.toNat
    · rw [if_pos hj, hj, ja_up_s]
    · rw [if_neg hj, ja_up_j hj, ja_rw_n (by omega), hfr _ (by omega) (by omega)]
  have wo : ∀ q, q ≠ y + 49 + 1 → q ≠ y + 49 + 3 → q ≠ y + 49 + 4 → W q = M1 q := fun q d1 d3 d4 => by rw [← hW, ja_rw_n d1, ja_up_row d4, ja_rw_n d3]
  have wm : ∀ q, q ≠ y + 49 + 1 → q ≠ y + 49 + 3 → q ≠ y + 49 + 4 → (q < o ∨ o + 20 ≤ q) → q < n → W q = mem q := fun q d1 d3 d4 d5 d6 => (wo q d1 d3 d4).trans (hfr q d5 d6)
  have hcase : ∀ s : Nat, s < 2 → ∀ o', sl1 s = some o' → ((s : Int) = k ∧ o' = o) ∨ ((s : Int) ≠ k ∧ sl s = some o') := fun s s2 o' hs => by
    by_cases hq : (s : Int) = k
    · left
      have : k.toNat = s := by omega
      rw [← this, hsk] at hs
      cases hs
      exact ⟨hq, rfl⟩
    · right
      rw [hso s s2 hq] at hs
      exact ⟨hq, hs⟩
  refine ⟨⟨hlB, ⟨?_, ⟨t2, ?_⟩, ?_, ?_, ?_⟩, by omega, ?_, ?_⟩, ⟨hlM, ?_, ?_, ?_, ?_⟩, ?_, ?_, ?_⟩
  · exact ja_RO_all (fun q d1 d2 => wm q (by omega) (by omega) (by omega) (by omega) (by omega)) (h1.mono (by omega))
  · exact ja_RO_all (fun q d1 d2 => wm q (by omega) (by omega) (by omega) (by omega) (by omega)) h2
  · exact ja_HO_c (wm _ (by omega) (by omega) (by omega) (by omega) (by omega)) (wm _ (by omega) (by omega) (by omega) (by omega) (by omega)) h3
  · exact ja_AO_c (fun q d1 d2 => wm q (by omega) (by omega) (by omega) (by omega) (by omega)) h4
  · intro i o' hi hs
    rcases hcase i hi o' hs with ⟨-, rfl⟩ | ⟨hne, hs2⟩
    · exact ja_RO_all (fun q d1 d2 => wo q (by omega) (by omega) (by omega)) (hcp.mono (by omega))
    · have ho' := a4 i o' hi hs2
      have hd := hdis i o' hi hne hs2
      exact ja_RO_all (fun q d1 d2 => wm q (by omega) (by omega) (by omega) (by omega) (by omega)) ((h5 i o' hi hs2).mono (by omega))
  · intro i o' hi hs
    rcases hcase i hi o' hs with ⟨-, rfl⟩ | ⟨-, hs2⟩
    · exact ho
    · have ho' := a4 i o' hi hs2
      exact ⟨ho'.1, by omega⟩
  · intro o0 o1 hs0 hs1
    rcases hcase 0 (by omega) o0 hs0 with ⟨k0, rfl⟩ | ⟨k0, hs02⟩
    · rcases hcase 1 (by omega) o1 hs1 with ⟨k1, -⟩ | ⟨k1, hs12⟩
      · omega
      · have := hdis 1 o1 (by omega) k1 hs12
        omega
    · rcases hcase 1 (by omega) o1 hs1 with ⟨k1, rfl⟩ | ⟨k1, hs12⟩
      · exact hdis 0 o0 (by omega) k0 hs02
      · exact a5 o0 o1 hs02 hs12
  · rw [w1]
    exact b2.mono (by omega)
  · exact N_TO_c (by rw [wm _ (by omega) (by omega) (by omega) (by omega) (by omega)]) (wm _ (by omega) (by omega) (by omega) (by omega) (by omega)) b3
  · intro j
    rw [w4]
    split
    · omega
    · exact b4 j
  · intro s s2 hs1
    rw [w4] at hs1
    rw [w3]
    by_cases hq : (s : Int) = k
    · exact (b2.mono (by omega)).c (fun j hj => N_kr_at hq.symm hj)
    · rw [if_neg (by omega)] at hs1
      exact ((b5 s s2 hs1).mono (by omega)).c (fun j hj => N_kr_ne hk.1 (fun q => hq q.symm) hj)
  · rw [w1]
    exact cg mem W _ _ _ (fun q d1 d2 => wm q (by omega) (by omega) (by omega) (by omega) (by omega)) (fun _ _ => rfl) hT
  · have x1 := wm (y + 42) (by omega) (by omega) (by omega) (by omega) (by omega)
    have x2 := wm (y + 42 + 1) (by omega) (by omega) (by omega) (by omega) (by omega)
    have x3 := wm (y + 49) (by omega) (by omega) (by omega) (by omega) (by omega)
    have x4 := wm (y + 49 + 5) (by omega) (by omega) (by omega) (by omega) (by omega)
    unfold L_x
    rw [x1, x2, x3, x4]
    exact hx
  · intro s s2
    rw [w4, w3]
    by_cases hq : (s : Int) = k
    · have hks : k.toNat = s := by omega
      rw [if_pos (by omega)]
      refine ⟨fun q => ?_, fun o' q => ?_⟩
      · rw [← hks, hsk] at q
        cases q
      · rw [← hks, hsk] at q
        cases q
        exact ⟨rfl, cg M1 W o _ _ (fun q d1 d2 => wo q (by omega) (by omega) (by omega)) (fun j hj => N_kr_at hq.symm hj) hSo⟩
    · rw [if_neg (by omega)]
      refine ⟨fun q => (hsl s s2).1 (by rw [← hso s s2 hq]; exact q), fun o' q => ?_⟩
      rw [hso s s2 hq] at q
      obtain ⟨e1, e2⟩ := (hsl s s2).2 o' q
      have ho' := a4 s o' s2 q
      have hd := hdis s o' s2 hq q
      exact ⟨e1, cg mem W o' _ _ (fun q d1 d2 => wm q (by omega) (by omega) (by omega) (by omega) (by omega)) (fun j hj => N_kr_ne hk.1 (fun q => hq q.symm) hj) e2⟩
/-- a receiver is restored -/
theorem In_restore {S : S_T} (hS : S_ok S) {lay : ja_Y} {mem : ja_M} {n y o s : Nat} {sl : Nat → Option Nat} {t : Int} (h : L_In S lay mem n y sl t) (hs : s < 2) (hso : sl s = some o) {M1 : ja_M} (e : R_cp mem (y + 1) o = M1) {v' : Nat → Int} (hv : ∀ j, j < 2484 → v' j = mem (y + 49 + 3) (2484 * s + j)) : L_In S lay (ja_rw M1 (y + 49 + 1) v') n y sl (t + 500) := by
  have h0 := h
  obtain ⟨⟨a1, a2, a3, a4, a5⟩, ⟨b1, b2, b3, b4, b5⟩, hT, hx, hsl⟩ := h
  obtain ⟨cg, cy, -⟩ := id hS
  have ho := a4 s o hs hso
  obtain ⟨e1, e2⟩ := (hsl s hs).2 o hso
  obtain ⟨h1, ⟨t2, h2⟩, h3, h4, h5⟩ := id a2
  have hRo := h5 s o hs hso
  have hcp := R_cp_RO hRo h1 (by omega)
  have heq := R_cp_eq (mem := mem) (b := y + 1) (o := o) (by omega) hRo.2.2.2.1.1
  have hfr : ∀ q, (q < y + 1 ∨ y + 21 ≤ q) → M1 q = mem q := fun q d => by rw [← e]; exact R_cp_o (by omega)
  rw [e] at hcp heq
  refine In_step hS h0 (fun q hq => hfr q (by omega)) (by rw [hfr _ (by omega)]) (hfr _ (by omega)) ?_ N_rf.rf (((b5 s hs e1).mono (by omega)).c hv) ?_
  · exact BO_recv (by omega) a2 (fun i o' hi ho' => by have := a4 i o' hi ho'; omega) (hcp.mono (by omega)) (fun q hq => hfr q (by omega))
  · exact cg M1 M1 _ _ _ (fun _ _ _ => rfl) hv (cy mem M1 (y + 1) o _ t hRo heq e2)
theorem In_fresh {S : S_T} (hS : S_ok S) {lay : ja_Y} {mem : ja_M} {n y : Nat} (h : L_fr lay mem n y (y + 49)) : L_In S lay mem n y (fun _ => none) 0 := by
  obtain ⟨hm, hn, hB, hM, hS1, hS2, hz, hv, hmz⟩ := id h
  obtain ⟨-, -, -, -, -, -, -, -, -, hi⟩ := hS
  refine ⟨⟨hB, h.BO, by omega, fun i o _ q => (by cases q), fun o0 o1 q _ => (by cases q)⟩, ⟨hM, by rw [hv]; exact N_v0_O, ⟨by rw [hmz (y + 49) 5 (by omega) (by omega) (by omega)]; omega, fun j => by rw [hmz (y + 49 + 5) j (by omega) (by omega) (by omega)]; omega⟩, fun j => by rw [hmz (y + 49 + 4) j (by omega) (by omega) (by omega)]; omega, fun s _ q => by rw [hmz (y + 49 + 4) s (by omega) (by omega) (by omega)] at q; omega⟩, by rw [hv]; exact hi _ _ h.R, ⟨?_, fun j hj => ?_⟩, fun s _ => ⟨fun _ => hmz (y + 49 + 4) s (by omega) (by omega) (by omega), fun o q => (by cases q)⟩⟩
  · rw [hmz (y + 49) 5 (by omega) (by omega) (by omega)]
    exact Z_HO h
  · rw [hmz (y + 49) 5 (by omega) (by omega) (by omega)] at hj
    omega
theorem In_step2 {S : S_T} (hS : S_ok S) {lay : ja_Y} {mem : ja_M} {n y : Nat} {sl : Nat → Option Nat} {t : Int} (h : L_In S lay mem n y sl t) {M1 G' M2 : ja_M} {v' : Nat → Int} (e : ja_rw G' (y + 49 + 1) v' = M2) (c1 : ∀ q, y + 49 ≤ q → M1 q = mem q) (c2 : M1 (y + 42) 1 = mem (y + 42) 1) (c3 : M1 (y + 42 + 1) = mem (y + 42 + 1)) (cB : ja_BO M1 y sl (t + 500)) (hG : N_rf (y + 49) M1 G') (hO : N_O v' (t + 500)) (hs : S M1 (y + 1) v') : L_In S lay M2 n y sl (t + 500) := by
  subst e
  exact In_step hS h c1 c2 c3 cB hG hO hs
end
section
theorem r_pop2 {C : ja_C} {own : String} {cc : ByteArray} {nl : Nat} {rm : Room} {cells slots n pc : Nat} {lay : ja_Y} {mem : ja_M} {ls : List (Option Value)} {st : List Value} (F : ja_F C own cc nl rm) {v : Value} (hc : v.category = 2) (d : decode cc pc = .ok (.pop2, 1)) {pc' : Nat} (hpc : pc + 1 = pc') (k : ja_W C cells slots lay mem n pc' ls st) : ja_W C cells slots lay mem n pc ls (v :: st) := by
  subst hpc
  obtain ⟨p, l, e, R, s, m, args, below, meth, c, D, cA, B, nL, Q⟩ := C
  obtain ⟨hnl, hrm, hx, hb, hml, hown, hts, ⟨hK, hAO, hNw⟩, hlk, hB⟩ := F
  subst hnl; subst hrm
  intro H locs lsA hH hS hl
  exact lv_pop2_2 hx hb d hc (k H locs lsA hH hS hl)
end
