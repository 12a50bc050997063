-- the law: its script, its world, its end
/-- the law's script: L ints xs at the cell b, out of the way -/
def ja_X (C : ja_C) (b L : Nat) (xs : Nat → Int32) : Prop := match C with
  | (p, l, e, R, s, m, args, below, meth, c, D, cA, B, nL, Q) => va_X b L xs s s.heap ∧ b < s.heap.size ∧ b < B
section
variable {C : ja_C} {own : String} {cc : ByteArray} {nl : Nat} {rm : Room} {cells slots n : Nat} {lay : ja_Y} {mem : ja_M} {pc : Nat} {ls : List (Option Value)} {st : List Value}
theorem r_slen (F : ja_F C own cc nl rm) {b L : Nat} {xs : Nat → Int32} (X : ja_X C b L xs) (d : decode cc pc = .ok (.arraylength, 1)) {pc' : Nat} (hpc : pc + 1 = pc') (k : ja_W C cells slots lay mem n pc' ls (.int (ja_I (L : Int)) :: st)) : ja_W C cells slots lay mem n pc ls (.ref b :: st) := by
  subst hpc
  obtain ⟨p, l, e, R, s, m, args, below, meth, c, D, cA, B, nL, Q⟩ := C
  obtain ⟨hnl, hrm, hx, hb, hml, hown, hts, ⟨hK, hAO, hNw⟩, hlk, hB⟩ := F
  subst hnl; subst hrm
  obtain ⟨x1, x2, x3⟩ := X
  intro H locs lsA hH hS hl
  exact va_slen hx hb x1 x2 (Nat.not_le.mpr x3) hS d (k H locs lsA hH hS hl)
theorem r_sld (F : ja_F C own cc nl rm) {b L : Nat} {xs : Nat → Int32} (X : ja_X C b L xs) {z : Int} (h0 : 0 ≤ z) (h1 : z < L) (hL : L ≤ 2147483648) (d : decode cc pc = .ok (.iaload, 1)) {pc' : Nat} (hpc : pc + 1 = pc') (k : ja_W C cells slots lay mem n pc' ls (.int (ja_I (xs z.toNat).toInt) :: st)) : ja_W C cells slots lay mem n pc ls (.int (ja_I z) :: .ref b :: st) := by
  subst hpc
  obtain ⟨p, l, e, R, s, m, args, below, meth, c, D, cA, B, nL, Q⟩ := C
  obtain ⟨hnl, hrm, hx, hb, hml, hown, hts, ⟨hK, hAO, hNw⟩, hlk, hB⟩ := F
  subst hnl; subst hrm
  obtain ⟨x1, x2, x3⟩ := X
  intro H locs lsA hH hS hl
  have hk := k H locs lsA hH hS hl
  rw [ja_of, ← ja_clamp (z := z) ⟨by omega, by omega⟩] at hk
  exact va_sld hx hb x1 x2 (Nat.not_le.mpr x3) hS (ja_vpin h0 h1 hL) d hk
/-- two equal numbers: the branch is taken -/
theorem r_same (F : ja_F C own cc nl rm) {a b : Int} (h : a = b) {off : Int} {tgt : Nat} (d : decode cc pc = .ok (.if_icmp .eq off, 3)) (ht : (pc : Int) + off = (tgt : Int)) (k : ja_W C cells slots lay mem n tgt ls st) : ja_W C cells slots lay mem n pc ls (.int (ja_I b) :: .int (ja_I a) :: st) := by
  obtain ⟨p, l, e, R, s, m, args, below, meth, c, D, cA, B, nL, Q⟩ := C
  obtain ⟨hnl, hrm, hx, hb, hml, hown, hts, ⟨hK, hAO, hNw⟩, hlk, hB⟩ := F
  subst hnl; subst hrm
  intro H locs lsA hH hS hl
  exact lv_icmp_eq hx hb d ht (fun _ => k H locs lsA hH hS hl) (fun q => absurd (by rw [h]) q)
end
theorem ja_Nw {w : Cond} {A : Array Value} {U : State} (hn : ja_isN w = true) (h : w.before A U = true) : va_Nw w U := by
  cases w <;> first | exact va_Nw.of rfl h | (simp [ja_isN] at hn)
theorem ja_tb {w : Cond} (h : w ∈ lw_tbg) : w ∈ lw_tbl := (List.mem_filter.mp h).1
theorem ja_arrc {s : State} {args : Array Value} {ty : FieldType} (h : (Cond.arrayClass ty).before args s = true) : ∃ c, ArrOfT s c ty ∧ s.vm.findClass ("[" ++ ty.toString) = some c := by
  obtain ⟨c, k, comp, h1, h2, h3⟩ := Cond.arrayClass_spec h
  exact ⟨c, fun n z => ⟨fun k h => (by cases h), k, h2, comp, h3⟩, h1⟩
theorem ja_arro {s : State} {Cn : String} (h : va_AO Cn s) : ∃ c, ArrOfT s c (.object Cn) ∧ va_RA s c (.object Cn) := by
  obtain ⟨comp, c, k, h1, h2, h3, h4, h5⟩ := Cond.arrayOver_spec h
  exact ⟨c, fun n z => ⟨fun k h => (by cases h), k, h3, comp, h4⟩, k, comp, h3, h4, h1, h5⟩
/-- a world for the law -/
theorem ja_world {s : State} {args : Array Value} (hts : ∀ w ∈ lw_tbl, w.before args s = true) : ∃ (D : va_G) (cA : Nat → ClassId), ja_K D cA s := by
  have hg : ∀ w ∈ lw_tbg, w.before args s = true := fun w h => hts w (ja_tb h)
  obtain ⟨c0, i0, k0⟩ := u_known (C := RX0) (T := TX0) (N := 8) hg u_X0 (hg _ kI_X0)
  obtain ⟨c1, i1, k1⟩ := u_known (C := RX1) (T := TX1) (N := 5) hg u_X1 (hg _ kI_X1)
  obtain ⟨c2, i2, k2⟩ := u_known (C := RX2) (T := TX2) (N := 9) hg u_X2 (hg _ kI_X2)
  obtain ⟨c3, i3, k3⟩ := u_known (C := RX3) (T := TX3) (N := 3) hg u_X3 (hg _ kI_X3)
  obtain ⟨c4, i4, k4⟩ := u_known (C := RX4) (T := TX4) (N := 8) hg u_X4 (hg _ kI_X4)
  obtain ⟨c5, i5, k5⟩ := u_known (C := RX5) (T := TX5) (N := 9) hg u_X5 (hg _ kI_X5)
  obtain ⟨c6, i6, k6⟩ := u_known (C := RX6) (T := TX6) (N := 9) hg u_X6 (hg _ kI_X6)
  obtain ⟨c7, i7, k7⟩ := u_known (C := RX7) (T := TX7) (N := 4) hg u_X7 (hg _ kI_X7)
  obtain ⟨c8, i8, k8⟩ := u_known (C := RX8) (T := TX8) (N := 5) hg u_X8 (hg _ kI_X8)
  obtain ⟨c9, i9, k9⟩ := u_known (C := RX9) (T := TX9) (N := 11) hg u_X9 (hg _ kI_X9)
  obtain ⟨ai, a0, a1⟩ := ja_arrc (hg _ a_int)
  obtain ⟨al, b0, b1⟩ := ja_arrc (hg _ a_long)
  obtain ⟨ab, d0, d1⟩ := ja_arrc (hg _ a_boolean)
  have hAO : va_AO RX5 s := va_AO.of (hts _ kO_X5)
  obtain ⟨ao, e0, e1⟩ := ja_arro hAO
  refine ⟨(fun k => match k with | 0 => c0 | 1 => c1 | 2 => c2 | 3 => c3 | 4 => c4 | 5 => c5 | 6 => c6 | 7 => c7 | 8 => c8 | _ => c9, fun k => match k with | 0 => i0 | 1 => i1 | 2 => i2 | 3 => i3 | 4 => i4 | 5 => i5 | 6 => i6 | 7 => i7 | 8 => i8 | _ => i9), fun k => match k with | 0 => ai | 1 => al | 2 => ab | _ => ao, ⟨fun k q hq => ?_, fun k q hq => ?_⟩, hAO, fun w hw hn => ja_Nw hn (hts w hw)⟩
  · match k, hq with
    | 0, hq => cases hq; exact k0
    | 1, hq => cases hq; exact k1
    | 2, hq => cases hq; exact k2
    | 3, hq => cases hq; exact k3
    | 4, hq => cases hq; exact k4
    | 5, hq => cases hq; exact k5
    | 6, hq => cases hq; exact k6
    | 7, hq => cases hq; exact k7
    | 8, hq => cases hq; exact k8
    | 9, hq => cases hq; exact k9
    | k + 10, hq => simp [vwCl] at hq
  · match k, hq with
    | 0, hq => cases hq; exact ⟨a0, a1⟩
    | 1, hq => cases hq; exact ⟨b0, b1⟩
    | 2, hq => cases hq; exact ⟨d0, d1⟩
    | 3, hq => cases hq; exact ⟨e0, e1⟩
    | k + 4, hq => simp [ja_tys] at hq
