theorem tm_1 {w : Cond} (i : Nat) (h : tables_1_1[i]? = some w) (g : goodWord w = true) : w ∈ lw_tbg := List.mem_filter.mpr ⟨List.mem_append_right _ (List.mem_append_left _ (List.mem_of_getElem? h)), g⟩
theorem tm_2 {w : Cond} (i : Nat) (h : tables_1_2[i]? = some w) (g : goodWord w = true) : w ∈ lw_tbg := List.mem_filter.mpr ⟨List.mem_append_right _ (List.mem_append_right _ (List.mem_append_left _ (List.mem_of_getElem? h))), g⟩
theorem tm_3 {w : Cond} (i : Nat) (h : tables_1_3[i]? = some w) (g : goodWord w = true) : w ∈ lw_tbg := List.mem_filter.mpr ⟨List.mem_append_right _ (List.mem_append_right _ (List.mem_append_right _ (List.mem_append_left _ (List.mem_of_getElem? h)))), g⟩
theorem tm_4 {w : Cond} (i : Nat) (h : tables_1_4[i]? = some w) (g : goodWord w = true) : w ∈ lw_tbg := List.mem_filter.mpr ⟨List.mem_append_right _ (List.mem_append_right _ (List.mem_append_right _ (List.mem_append_right _ (List.mem_append_left _ (List.mem_of_getElem? h))))), g⟩
theorem tm_5 {w : Cond} (i : Nat) (h : tables_1_5[i]? = some w) (g : goodWord w = true) : w ∈ lw_tbg := List.mem_filter.mpr ⟨List.mem_append_right _ (List.mem_append_right _ (List.mem_append_right _ (List.mem_append_right _ (List.mem_append_right _ (List.mem_append_left _ (List.mem_of_getElem? h)))))), g⟩
theorem tm_6 {w : Cond} (i : Nat) (h : tables_1_6[i]? = some w) (g : goodWord w = true) : w ∈ lw_tbg := List.mem_filter.mpr ⟨List.mem_append_right _ (List.mem_append_right _ (List.mem_append_right _ (List.mem_append_right _ (List.mem_append_right _ (List.mem_append_right _ (List.mem_of_getElem? h)))))), g⟩
theorem tn_0 : True := trivial
theorem tn_1 {w : Cond} (i : Nat) (h : tables_1_1[i]? = some w) : w ∈ lw_tbl := List.mem_append_right _ (List.mem_append_left _ (List.mem_of_getElem? h))
theorem tn_2 {w : Cond} (i : Nat) (h : tables_1_2[i]? = some w) : w ∈ lw_tbl := List.mem_append_right _ (List.mem_append_right _ (List.mem_append_left _ (List.mem_of_getElem? h)))
theorem tn_3 {w : Cond} (i : Nat) (h : tables_1_3[i]? = some w) : w ∈ lw_tbl := List.mem_append_right _ (List.mem_append_right _ (List.mem_append_right _ (List.mem_append_left _ (List.mem_of_getElem? h))))
theorem tn_4 {w : Cond} (i : Nat) (h : tables_1_4[i]? = some w) : w ∈ lw_tbl := List.mem_append_right _ (List.mem_append_right _ (List.mem_append_right _ (List.mem_append_right _ (List.mem_append_left _ (List.mem_of_getElem? h)))))
theorem tn_5 {w : Cond} (i : Nat) (h : tables_1_5[i]? = some w) : w ∈ lw_tbl := List.mem_append_right _ (List.mem_append_right _ (List.mem_append_right _ (List.mem_append_right _ (List.mem_append_right _ (List.mem_append_left _ (List.mem_of_getElem? h))))))
theorem tn_6 {w : Cond} (i : Nat) (h : tables_1_6[i]? = some w) : w ∈ lw_tbl := List.mem_append_right _ (List.mem_append_right _ (List.mem_append_right _ (List.mem_append_right _ (List.mem_append_right _ (List.mem_append_right _ (List.mem_of_getElem? h))))))
theorem tm_0 {w : Cond} (i : Nat) (h : (k2_sels lw_privs)[i]? = some w) (g : goodWord w = true) : w ∈ lw_tbg := List.mem_filter.mpr ⟨List.mem_append_left _ (List.mem_of_getElem? h), g⟩
theorem u_X0 : ∀ w ∈ u_ws RX0 TX0 8, w ∈ lw_tbg := List.forall_mem_cons.mpr ⟨tm_2 42 rfl rfl, List.forall_mem_cons.mpr ⟨tm_2 44 rfl rfl, List.forall_mem_cons.mpr ⟨tm_2 46 rfl rfl, List.forall_mem_cons.mpr ⟨tm_2 48 rfl rfl, List.forall_mem_cons.mpr ⟨tm_2 50 rfl rfl, List.forall_mem_cons.mpr ⟨tm_2 52 rfl rfl, List.forall_mem_cons.mpr ⟨tm_2 54 rfl rfl, List.forall_mem_cons.mpr ⟨tm_2 56 rfl rfl, fun _ h => absurd h List.not_mem_nil⟩⟩⟩⟩⟩⟩⟩⟩
theorem u_X1 : ∀ w ∈ u_ws RX1 TX1 5, w ∈ lw_tbg := List.forall_mem_cons.mpr ⟨tm_1 218 rfl rfl, List.forall_mem_cons.mpr ⟨tm_1 220 rfl rfl, List.forall_mem_cons.mpr ⟨tm_1 222 rfl rfl, List.forall_mem_cons.mpr ⟨tm_1 224 rfl rfl, List.forall_mem_cons.mpr ⟨tm_1 226 rfl rfl, fun _ h => absurd h List.not_mem_nil⟩⟩⟩⟩⟩
theorem u_X2 : ∀ w ∈ u_ws RX2 TX2 9, w ∈ lw_tbg := List.forall_mem_cons.mpr ⟨tm_1 177 rfl rfl, List.forall_mem_cons.mpr ⟨tm_1 179 rfl rfl, List.forall_mem_cons.mpr ⟨tm_1 181 rfl rfl, List.forall_mem_cons.mpr ⟨tm_1 183 rfl rfl, List.forall_mem_cons.mpr ⟨tm_1 185 rfl rfl, List.forall_mem_cons.mpr ⟨tm_1 187 rfl rfl, List.forall_mem_cons.mpr ⟨tm_1 189 rfl rfl, List.forall_mem_cons.mpr ⟨tm_1 191 rfl rfl, List.forall_mem_cons.mpr ⟨tm_1 193 rfl rfl, fun _ h => absurd h List.not_mem_nil⟩⟩⟩⟩⟩⟩⟩⟩⟩
theorem u_X3 : ∀ w ∈ u_ws RX3 TX3 3, w ∈ lw_tbg := List.forall_mem_cons.mpr ⟨tm_1 88 rfl rfl, List.forall_mem_cons.mpr ⟨tm_1 90 rfl rfl, List.forall_mem_cons.mpr ⟨tm_1 92 rfl rfl, fun _ h => absurd h List.not_mem_nil⟩⟩⟩
theorem u_X4 : ∀ w ∈ u_ws RX4 TX4 8, w ∈ lw_tbg := List.forall_mem_cons.mpr ⟨tm_1 134 rfl rfl, List.forall_mem_cons.mpr ⟨tm_1 136 rfl rfl, List.forall_mem_cons.mpr ⟨tm_1 138 rfl rfl, List.forall_mem_cons.mpr ⟨tm_1 140 rfl rfl, List.forall_mem_cons.mpr ⟨tm_1 142 rfl rfl, List.forall_mem_cons.mpr ⟨tm_1 144 rfl rfl, List.forall_mem_cons.mpr ⟨tm_1 146 rfl rfl, List.forall_mem_cons.mpr ⟨tm_1 148 rfl rfl, fun _ h => absurd h List.not_mem_nil⟩⟩⟩⟩⟩⟩⟩⟩
theorem u_X5 : ∀ w ∈ u_ws RX5 TX5 9, w ∈ lw_tbg := List.forall_mem_cons.mpr ⟨tm_2 7 rfl rfl, List.forall_mem_cons.mpr ⟨tm_2 9 rfl rfl, List.forall_mem_cons.mpr ⟨tm_2 11 rfl rfl, List.forall_mem_cons.mpr ⟨tm_2 13 rfl rfl, List.forall_mem_cons.mpr ⟨tm_2 15 rfl rfl, List.forall_mem_cons.mpr ⟨tm_2 17 rfl rfl, List.forall_mem_cons.mpr ⟨tm_2 19 rfl rfl, List.forall_mem_cons.mpr ⟨tm_2 21 rfl rfl, List.forall_mem_cons.mpr ⟨tm_2 23 rfl rfl, fun _ h => absurd h List.not_mem_nil⟩⟩⟩⟩⟩⟩⟩⟩⟩
theorem u_X6 : ∀ w ∈ u_ws RX6 TX6 9, w ∈ lw_tbg := List.forall_mem_cons.mpr ⟨tm_1 60 rfl rfl, List.forall_mem_cons.mpr ⟨tm_1 62 rfl rfl, List.forall_mem_cons.mpr ⟨tm_1 64 rfl rfl, List.forall_mem_cons.mpr ⟨tm_1 66 rfl rfl, List.forall_mem_cons.mpr ⟨tm_1 68 rfl rfl, List.forall_mem_cons.mpr ⟨tm_1 70 rfl rfl, List.forall_mem_cons.mpr ⟨tm_1 72 rfl rfl, List.forall_mem_cons.mpr ⟨tm_1 74 rfl rfl, List.forall_mem_cons.mpr ⟨tm_1 76 rfl rfl, fun _ h => absurd h List.not_mem_nil⟩⟩⟩⟩⟩⟩⟩⟩⟩
theorem u_X7 : ∀ w ∈ u_ws RX7 TX7 4, w ∈ lw_tbg := List.forall_mem_cons.mpr ⟨tm_1 108 rfl rfl, List.forall_mem_cons.mpr ⟨tm_1 110 rfl rfl, List.forall_mem_cons.mpr ⟨tm_1 112 rfl rfl, List.forall_mem_cons.mpr ⟨tm_1 114 rfl rfl, fun _ h => absurd h List.not_mem_nil⟩⟩⟩⟩
theorem u_X8 : ∀ w ∈ u_ws RX8 TX8 5, w ∈ lw_tbg := List.forall_mem_cons.mpr ⟨tm_2 66 rfl rfl, List.forall_mem_cons.mpr ⟨tm_2 68 rfl rfl, List.forall_mem_cons.mpr ⟨tm_2 70 rfl rfl, List.forall_mem_cons.mpr ⟨tm_2 72 rfl rfl, List.forall_mem_cons.mpr ⟨tm_2 74 rfl rfl, fun _ h => absurd h List.not_mem_nil⟩⟩⟩⟩⟩
theorem u_X9 : ∀ w ∈ u_ws RX9 TX9 11, w ∈ lw_tbg := List.forall_mem_cons.mpr ⟨tm_4 120 rfl rfl, List.forall_mem_cons.mpr ⟨tm_4 122 rfl rfl, List.forall_mem_cons.mpr ⟨tm_4 124 rfl rfl, List.forall_mem_cons.mpr ⟨tm_4 126 rfl rfl, List.forall_mem_cons.mpr ⟨tm_4 128 rfl rfl, List.forall_mem_cons.mpr ⟨tm_4 130 rfl rfl, List.forall_mem_cons.mpr ⟨tm_4 132 rfl rfl, List.forall_mem_cons.mpr ⟨tm_4 134 rfl rfl, List.forall_mem_cons.mpr ⟨tm_4 136 rfl rfl, List.forall_mem_cons.mpr ⟨tm_4 138 rfl rfl, List.forall_mem_cons.mpr ⟨tm_4 140 rfl rfl, fun _ h => absurd h List.not_mem_nil⟩⟩⟩⟩⟩⟩⟩⟩⟩⟩⟩
theorem a_int : Cond.arrayClass .int ∈ lw_tbg := tm_1 96 rfl rfl
theorem a_long : Cond.arrayClass .long ∈ lw_tbg := tm_1 95 rfl rfl
theorem a_boolean : Cond.arrayClass .boolean ∈ lw_tbg := tm_4 143 rfl rfl
theorem l_J13_314 : Cond.constantLong RJ13 314 (6148914691236517205) ∈ lw_tbg := tm_2 172 rfl rfl
theorem l_J13_316 : Cond.constantLong RJ13 316 (3689348814741910323) ∈ lw_tbg := tm_2 173 rfl rfl
theorem l_J13_318 : Cond.constantLong RJ13 318 (1085102592571150095) ∈ lw_tbg := tm_2 174 rfl rfl
theorem n_L_7 : ja_New RL 7 8 5 [some .null, some .null, some .null, some .null, some .null] := ⟨RX8, TX8, tyX8, rfl, u_X8, tyX8_ok, tm_1 14 rfl rfl, tm_1 15 rfl rfl, tm_1 1 rfl rfl, fun j hj => by
  match j, hj with
  | 0, _ => rfl
  | 1, _ => rfl
  | 2, _ => rfl
  | 3, _ => rfl
  | 4, _ => rfl⟩
theorem i_L_9 : ja_Ci RL 9 yX8_init cX8_init 1 0 := ⟨tm_1 16 rfl rfl, tm_1 17 rfl rfl, tm_1 1 rfl rfl, tm_1 18 rfl rfl, by decide +kernel, by decide +kernel, by decide +kernel, by decide +kernel⟩
theorem n_L_10 : ja_New RL 10 9 11 [some .null, some .null, some .null, some .null, some .null, none, some .null, some .null, some .null, none, none] := ⟨RX9, TX9, tyX9, rfl, u_X9, tyX9_ok, tm_4 103 rfl rfl, tm_4 104 rfl rfl, tm_1 10 rfl rfl, fun j hj => by
  match j, hj with
  | 0, _ => rfl
  | 1, _ => rfl
  | 2, _ => rfl
  | 3, _ => rfl
  | 4, _ => rfl
  | 5, _ => rfl
  | 6, _ => rfl
  | 7, _ => rfl
  | 8, _ => rfl
  | 9, _ => rfl
  | 10, _ => rfl⟩
theorem i_L_12 : ja_Ci RL 12 yX9_init cX9_init 1 0 := ⟨tm_4 105 rfl rfl, tm_4 106 rfl rfl, tm_1 10 rfl rfl, tm_4 107 rfl rfl, by decide +kernel, by decide +kernel, by decide +kernel, by decide +kernel⟩
theorem v_L_13 : ja_Cv RL 13 yX8_setFrame cX8_setFrame 3 (some .int) 1 := ⟨tm_2 77 rfl rfl, tm_2 78 rfl rfl, tm_2 79 rfl rfl, tm_1 1 rfl rfl, tm_2 80 rfl rfl, by decide +kernel, by decide +kernel, by decide +kernel⟩
theorem v_L_17 : ja_Cv RL 17 yX9_setFrame cX9_setFrame 2 (some .int) 1 := ⟨tm_4 144 rfl rfl, tm_4 145 rfl rfl, tm_4 146 rfl rfl, tm_1 10 rfl rfl, tm_4 147 rfl rfl, by decide +kernel, by decide +kernel, by decide +kernel⟩
theorem v_L_18 : ja_Cv RL 18 yX8_setWave cX8_setWave 4 (some .int) 2 := ⟨tm_2 85 rfl rfl, tm_2 86 rfl rfl, tm_2 87 rfl rfl, tm_1 1 rfl rfl, tm_2 88 rfl rfl, by decide +kernel, by decide +kernel, by decide +kernel⟩
theorem v_L_22 : ja_Cv RL 22 yX9_setWave cX9_setWave 4 (some .int) 2 := ⟨tm_4 159 rfl rfl, tm_4 160 rfl rfl, tm_4 161 rfl rfl, tm_1 10 rfl rfl, tm_4 162 rfl rfl, by decide +kernel, by decide +kernel, by decide +kernel⟩
theorem v_L_23 : ja_Cv RL 23 yX8_setBlock cX8_setBlock 4 (some .int) 2 := ⟨tm_2 89 rfl rfl, tm_2 90 rfl rfl, tm_2 91 rfl rfl, tm_1 1 rfl rfl, tm_2 92 rfl rfl, by decide +kernel, by decide +kernel, by decide +kernel⟩
theorem v_L_26 : ja_Cv RL 26 yX9_setBlock cX9_setBlock 4 (some .int) 2 := ⟨tm_4 163 rfl rfl, tm_4 164 rfl rfl, tm_4 165 rfl rfl, tm_1 10 rfl rfl, tm_4 166 rfl rfl, by decide +kernel, by decide +kernel, by decide +kernel⟩
theorem v_L_27 : ja_Cv RL 27 yX8_setInitialDelay cX8_setInitialDelay 3 (some .int) 1 := ⟨tm_2 93 rfl rfl, tm_2 94 rfl rfl, tm_2 95 rfl rfl, tm_1 1 rfl rfl, tm_2 96 rfl rfl, by decide +kernel, by decide +kernel, by decide +kernel⟩
theorem v_L_30 : ja_Cv RL 30 yX9_setInitialDelay cX9_setInitialDelay 2 (some .int) 1 := ⟨tm_4 167 rfl rfl, tm_4 168 rfl rfl, tm_4 169 rfl rfl, tm_1 10 rfl rfl, tm_4 170 rfl rfl, by decide +kernel, by decide +kernel, by decide +kernel⟩
theorem v_L_31 : ja_Cv RL 31 yX8_setQuantile cX8_setQuantile 3 (some .int) 1 := ⟨tm_2 97 rfl rfl, tm_2 98 rfl rfl, tm_2 99 rfl rfl, tm_1 1 rfl rfl, tm_2 100 rfl rfl, by decide +kernel, by decide +kernel, by decide +kernel⟩
theorem v_L_34 : ja_Cv RL 34 yX9_setQuantile cX9_setQuantile 2 (some .int) 1 := ⟨tm_4 171 rfl rfl, tm_4 172 rfl rfl, tm_4 173 rfl rfl, tm_1 10 rfl rfl, tm_4 174 rfl rfl, by decide +kernel, by decide +kernel, by decide +kernel⟩
theorem v_L_35 : ja_Cv RL 35 yX8_setMargin cX8_setMargin 3 (some .int) 1 := ⟨tm_2 101 rfl rfl, tm_2 102 rfl rfl, tm_2 103 rfl rfl, tm_1 1 rfl rfl, tm_2 104 rfl rfl, by decide +kernel, by decide +kernel, by decide +kernel⟩
theorem v_L_38 : ja_Cv RL 38 yX9_setMargin cX9_setMargin 2 (some .int) 1 := ⟨tm_4 175 rfl rfl, tm_4 176 rfl rfl, tm_4 177 rfl rfl, tm_1 10 rfl rfl, tm_4 178 rfl rfl, by decide +kernel, by decide +kernel, by decide +kernel⟩
theorem v_L_39 : ja_Cv RL 39 yX8_setAdapting cX8_setAdapting 3 (some .int) 1 := ⟨tm_2 105 rfl rfl, tm_2 106 rfl rfl, tm_2 107 rfl rfl, tm_1 1 rfl rfl, tm_2 108 rfl rfl, by decide +kernel, by decide +kernel, by decide +kernel⟩
theorem v_L_43 : ja_Cv RL 43 yX9_setAdapting cX9_setAdapting 2 (some .int) 1 := ⟨tm_4 179 rfl rfl, tm_4 180 rfl rfl, tm_4 181 rfl rfl, tm_1 10 rfl rfl, tm_4 182 rfl rfl, by decide +kernel, by decide +kernel, by decide +kernel⟩
theorem v_L_44 : ja_Cv RL 44 yX8_arrive cX8_arrive 2 (some .int) 1 := ⟨tm_2 109 rfl rfl, tm_2 110 rfl rfl, tm_2 111 rfl rfl, tm_1 1 rfl rfl, tm_2 112 rfl rfl, by decide +kernel, by decide +kernel, by decide +kernel⟩
theorem v_L_47 : ja_Cv RL 47 yX9_arrive cX9_arrive 2 (some .int) 1 := ⟨tm_4 183 rfl rfl, tm_4 184 rfl rfl, tm_4 185 rfl rfl, tm_1 10 rfl rfl, tm_4 186 rfl rfl, by decide +kernel, by decide +kernel, by decide +kernel⟩
theorem v_L_48 : ja_Cv RL 48 yX8_arriveParity cX8_arriveParity 4 (some .int) 3 := ⟨tm_2 175 rfl rfl, tm_2 176 rfl rfl, tm_2 177 rfl rfl, tm_1 1 rfl rfl, tm_2 178 rfl rfl, by decide +kernel, by decide +kernel, by decide +kernel⟩
theorem v_L_52 : ja_Cv RL 52 yX9_arriveParity cX9_arriveParity 4 (some .int) 3 := ⟨tm_4 234 rfl rfl, tm_4 235 rfl rfl, tm_4 236 rfl rfl, tm_1 10 rfl rfl, tm_4 237 rfl rfl, by decide +kernel, by decide +kernel, by decide +kernel⟩
theorem v_L_53 : ja_Cv RL 53 yX8_advance cX8_advance 4 (some .int) 1 := ⟨tm_2 200 rfl rfl, tm_2 201 rfl rfl, tm_2 202 rfl rfl, tm_1 1 rfl rfl, tm_2 203 rfl rfl, by decide +kernel, by decide +kernel, by decide +kernel⟩
theorem v_L_56 : ja_Cv RL 56 yX9_advance cX9_advance 4 (some .int) 1 := ⟨tm_5 6 rfl rfl, tm_5 7 rfl rfl, tm_5 8 rfl rfl, tm_1 10 rfl rfl, tm_5 9 rfl rfl, by decide +kernel, by decide +kernel, by decide +kernel⟩
theorem v_L_57 : ja_Cv RL 57 yX8_time cX8_time 1 (some .int) 0 := ⟨tm_3 81 rfl rfl, tm_3 82 rfl rfl, tm_3 83 rfl rfl, tm_1 1 rfl rfl, tm_3 84 rfl rfl, by decide +kernel, by decide +kernel, by decide +kernel⟩
theorem v_L_61 : ja_Cv RL 61 yX9_time cX9_time 1 (some .int) 0 := ⟨tm_5 68 rfl rfl, tm_5 69 rfl rfl, tm_5 70 rfl rfl, tm_1 10 rfl rfl, tm_5 71 rfl rfl, by decide +kernel, by decide +kernel, by decide +kernel⟩
theorem v_L_62 : ja_Cv RL 62 yX8_start cX8_start 1 (some .int) 0 := ⟨tm_3 85 rfl rfl, tm_3 86 rfl rfl, tm_3 87 rfl rfl, tm_1 1 rfl rfl, tm_3 88 rfl rfl, by decide +kernel, by decide +kernel, by decide +kernel⟩
theorem v_L_65 : ja_Cv RL 65 yX9_start cX9_start 1 (some .int) 0 := ⟨tm_5 72 rfl rfl, tm_5 73 rfl rfl, tm_5 74 rfl rfl, tm_1 10 rfl rfl, tm_5 75 rfl rfl, by decide +kernel, by decide +kernel, by decide +kernel⟩
theorem v_L_66 : ja_Cv RL 66 yX8_output cX8_output 2 (some .int) 1 := ⟨tm_3 89 rfl rfl, tm_3 90 rfl rfl, tm_3 91 rfl rfl, tm_1 1 rfl rfl, tm_3 92 rfl rfl, by decide +kernel, by decide +kernel, by decide +kernel⟩
theorem v_L_69 : ja_Cv RL 69 yX9_output cX9_output 2 (some .int) 1 := ⟨tm_5 76 rfl rfl, tm_5 77 rfl rfl, tm_5 78 rfl rfl, tm_1 10 rfl rfl, tm_5 79 rfl rfl, by decide +kernel, by decide +kernel, by decide +kernel⟩
