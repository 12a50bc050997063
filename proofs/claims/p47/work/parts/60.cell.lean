abbrev rm_L_cell : Room := { frames := 0, cells := 0, slots := 0, locals := 0 }
set_option maxRecDepth 100000 in
set_option maxHeartbeats 4000000 in
theorem c_L_cell (l : Launch) (D : va_G) (cA : Nat → ClassId) (B : Nat) {lay : ja_Y} {mem : ja_M} {n b L : Nat} {xs : Nat → Int32} {k : Int} (hk : 0 ≤ k ∧ k ≤ 20) (hL : L ≤ 260) : ja_MtX l D cA B yL_cell cL_cell 2 (some .int) rm_L_cell [.ref b, .int (ja_I k)] lay mem n b L xs (fun r lay' mem' n' => lay = lay' ∧ mem = mem' ∧ n = n' ∧ ∃ z, (0 ≤ z ∧ z ≤ 2147483647) ∧ some (.int (ja_I z)) = r) := by
  refine ja_enterX [some (.ref b), some (.int (ja_I k))] (by decide) (Nat.le_of_ble_eq_true rfl) (fun q hq => hq) (fun C F Rt G X => ?_)
  refine r_iload_n F rfl rfl dL_cell_0 rfl ?_
  refine r_aload_n F rfl rfl dL_cell_1 rfl ?_
  refine r_slen F X dL_cell_2 rfl ?_
  refine r_icmp_ge F (tgt := 12) ⟨by omega, by omega⟩ ⟨by omega, by omega⟩ dL_cell_3 rfl (by decide) (fun h_3 => ?_) (fun h_3 => ?_)
  ·
    refine r_ldc F (z := 15485869) (by decide) l_L_7 dL_cell_12 rfl ?_
    refine r_iload_n F rfl rfl dL_cell_14 rfl ?_
    refine r_imul F dL_cell_15 rfl ?_
    refine r_sipush F (by decide) dL_cell_16 rfl ?_
    refine r_iadd F dL_cell_19 rfl ?_
    refine r_ldc F (z := 2147483647) (by decide) l_L_8 dL_cell_20 rfl ?_
    refine r_iand F (ja_of' _) dL_cell_22 rfl ?_
    exact r_iret F Rt dL_cell_23 (by decide) ⟨rfl, rfl, rfl, _, J_andM _, rfl⟩
  ·
    refine r_aload_n F rfl rfl dL_cell_6 rfl ?_
    refine r_iload_n F rfl rfl dL_cell_7 rfl ?_
    refine r_sld F X (by omega) (by omega) (by omega) dL_cell_8 rfl ?_
    refine r_goto F (tgt := 20) dL_cell_9 (by decide) ?_
    refine r_ldc F (z := 2147483647) (by decide) l_L_8 dL_cell_20 rfl ?_
    refine r_iand F (ja_of' _) dL_cell_22 rfl ?_
    exact r_iret F Rt dL_cell_23 (by decide) ⟨rfl, rfl, rfl, _, J_andM _, rfl⟩
