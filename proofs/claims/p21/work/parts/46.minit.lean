theorem r_lay {C : ja_C} {cells slots n pc : Nat} {lay : ja_Y} {mem : ja_M} {ls : List (Option Value)} {st : List Value} (P : ja_Y → ja_M → Prop) (h : P lay mem) (k : ∀ (L : ja_Y) (M : ja_M), P L M → ja_W C cells slots L M n pc ls st) : ja_W C cells slots lay mem n pc ls st := k _ _ h
abbrev rm_X9_init : Room := { frames := 1, cells := 8, slots := 10250, locals := 20 }
set_option maxRecDepth 100000 in
set_option maxHeartbeats 4000000 in
theorem c_X9_init (l : Launch) (D : va_G) (cA : Nat → ClassId) (B : Nat) {lay : ja_Y} {mem : ja_M} {a : Nat} (h0 : lay a = some (.inl (9, [some .null, some .null, some .null, some .null, some .null, none, some .null, some .null, some .null, none, none]))) (hz : ∀ j, mem a j = 0) : ja_Mt l D cA B yX9_init cX9_init 1 none rm_X9_init [.ref a] lay mem (a + 1) (fun v lay' mem' n' => none = v ∧ n' = a + 9 ∧ ja_LM lay' a ∧ (∀ q, q < a → lay' q = lay q) ∧ (∀ q, q < a → mem' q = mem q) ∧ (∀ j, mem' (a + 1) j = N_v0 j) ∧ ∀ q j, a ≤ q → q < a + 9 → q ≠ a + 1 → mem' q j = 0) := by
  refine ja_enter [some (.ref a)] (by decide) (Nat.le_of_ble_eq_true rfl) (fun q hq => hq) (fun C F Rt G hnm => ?_)
  refine r_aload_n F rfl rfl dX9_init_0 rfl ?_
  refine r_objinit F i_X9_1 (Nat.le_of_ble_eq_true rfl) (by decide) (by decide) dX9_init_1 rfl ?_
  refine r_aload_n F rfl rfl dX9_init_4 rfl ?_
  refine r_sipush F (by decide) dX9_init_5 rfl ?_
  refine r_newa F (atype := .int) (kd := 0) a_int (by decide) rfl (by decide) (by decide) (by decide) (by decide) dX9_init_8 rfl ?_
  refine r_putF F hnm rfl rfl rfl f_X9_7 (ds := [some .null, some .null, some .null, some .null, some .null, none, some .null, some .null, some .null, none, none]) (by simp [ja_ly, h0] <;> omega) (Nat.le_of_ble_eq_true rfl) dX9_init_10 rfl ?_
  refine r_aload_n F rfl rfl dX9_init_13 rfl ?_
  refine r_sipush F (by decide) dX9_init_14 rfl ?_
  refine r_newa F (atype := .int) (kd := 0) a_int (by decide) rfl (by decide) (by decide) (by decide) (by decide) dX9_init_17 rfl ?_
  refine r_putF F hnm rfl rfl rfl f_X9_13 (ds := [some (.ref (a + 1)), some .null, some .null, some .null, some .null, none, some .null, some .null, some .null, none, none]) (by simp [ja_ly, h0] <;> omega) (Nat.le_of_ble_eq_true rfl) dX9_init_19 rfl ?_
  refine r_aload_n F rfl rfl dX9_init_22 rfl ?_
  refine r_sipush F (by decide) dX9_init_23 rfl ?_
  refine r_newa F (atype := .int) (kd := 0) a_int (by decide) rfl (by decide) (by decide) (by decide) (by decide) dX9_init_26 rfl ?_
  refine r_putF F hnm rfl rfl rfl f_X9_16 (ds := [some (.ref (a + 1)), some (.ref (a + 1 + 1)), some .null, some .null, some .null, none, some .null, some .null, some .null, none, none]) (by simp [ja_ly, h0] <;> omega) (Nat.le_of_ble_eq_true rfl) dX9_init_28 rfl ?_
  refine r_aload_n F rfl rfl dX9_init_31 rfl ?_
  refine r_iconst F dX9_init_32 rfl ?_
  refine r_newa F (atype := .boolean) (kd := 2) a_boolean (by decide) rfl (by decide) (by decide) (by decide) (by decide) dX9_init_33 rfl ?_
  refine r_putF F hnm rfl rfl rfl f_X9_19 (ds := [some (.ref (a + 1)), some (.ref (a + 1 + 1)), some (.ref (a + 1 + 1 + 1)), some .null, some .null, none, some .null, some .null, some .null, none, none]) (by simp [ja_ly, h0] <;> omega) (Nat.le_of_ble_eq_true rfl) dX9_init_35 rfl ?_
  refine r_aload_n F rfl rfl dX9_init_38 rfl ?_
  refine r_bipush F (by decide) dX9_init_39 rfl ?_
  refine r_newa F (atype := .int) (kd := 0) a_int (by decide) rfl (by decide) (by decide) (by decide) (by decide) dX9_init_41 rfl ?_
  refine r_putF F hnm rfl rfl rfl f_X9_23 (ds := [some (.ref (a + 1)), some (.ref (a + 1 + 1)), some (.ref (a + 1 + 1 + 1)), some (.ref (a + 1 + 1 + 1 + 1)), some .null, none, some .null, some .null, some .null, none, none]) (by simp [ja_ly, h0] <;> omega) (Nat.le_of_ble_eq_true rfl) dX9_init_43 rfl ?_
  refine r_aload_n F rfl rfl dX9_init_46 rfl ?_
  refine r_bipush F (by decide) dX9_init_47 rfl ?_
  refine r_newa F (atype := .int) (kd := 0) a_int (by decide) rfl (by decide) (by decide) (by decide) (by decide) dX9_init_49 rfl ?_
  refine r_putF F hnm rfl rfl rfl f_X9_26 (ds := [some (.ref (a + 1)), some (.ref (a + 1 + 1)), some (.ref (a + 1 + 1 + 1)), some (.ref (a + 1 + 1 + 1 + 1)), some (.ref (a + 1 + 1 + 1 + 1 + 1)), none, some .null, some .null, some .null, none, none]) (by simp [ja_ly, h0] <;> omega) (Nat.le_of_ble_eq_true rfl) dX9_init_51 rfl ?_
  refine r_aload_n F rfl rfl dX9_init_54 rfl ?_
  refine r_bipush F (by decide) dX9_init_55 rfl ?_
  refine r_newa F (atype := .int) (kd := 0) a_int (by decide) rfl (by decide) (by decide) (by decide) (by decide) dX9_init_57 rfl ?_
  refine r_putF F hnm rfl rfl rfl f_X9_29 (ds := [some (.ref (a + 1)), some (.ref (a + 1 + 1)), some (.ref (a + 1 + 1 + 1)), some (.ref (a + 1 + 1 + 1 + 1)), some (.ref (a + 1 + 1 + 1 + 1 + 1)), none, some (.ref (a + 1 + 1 + 1 + 1 + 1 + 1)), some .null, some .null, none, none]) (by simp [ja_ly, h0] <;> omega) (Nat.le_of_ble_eq_true rfl) dX9_init_59 rfl ?_
  refine r_aload_n F rfl rfl dX9_init_62 rfl ?_
  refine r_sipush F (by decide) dX9_init_63 rfl ?_
  refine r_newa F (atype := .int) (kd := 0) a_int (by decide) rfl (by decide) (by decide) (by decide) (by decide) dX9_init_66 rfl ?_
  refine r_putF F hnm rfl rfl rfl f_X9_32 (ds := [some (.ref (a + 1)), some (.ref (a + 1 + 1)), some (.ref (a + 1 + 1 + 1)), some (.ref (a + 1 + 1 + 1 + 1)), some (.ref (a + 1 + 1 + 1 + 1 + 1)), none, some (.ref (a + 1 + 1 + 1 + 1 + 1 + 1)), some (.ref (a + 1 + 1 + 1 + 1 + 1 + 1 + 1)), some .null, none, none]) (by simp [ja_ly, h0] <;> omega) (Nat.le_of_ble_eq_true rfl) dX9_init_68 rfl ?_
  refine r_lay (fun L K => ja_LM L a ∧ (∀ q, q < a → L q = lay q) ∧ (∀ q, q < a → K q = mem q) ∧ ∀ q j, a ≤ q → q < a + 9 → K q j = 0) ⟨⟨by simp [ja_ly], by simp [ja_ly]; try rfl, by simp [ja_ly]; try rfl, by simp [ja_ly]; try rfl, by simp [ja_ly]; try rfl, by simp [ja_ly]; try rfl, by simp [ja_ly]; try rfl, by simp [ja_ly]; try rfl, by simp [ja_ly]; try rfl⟩, fun q hq => by simp [ja_ly, show q ≠ a by omega, show q ≠ a + 1 by omega, show q ≠ a + 2 by omega, show q ≠ a + 3 by omega, show q ≠ a + 4 by omega, show q ≠ a + 5 by omega, show q ≠ a + 6 by omega, show q ≠ a + 7 by omega, show q ≠ a + 8 by omega], fun q hq => by funext j; simp [ja_zr, show q ≠ a by omega, show q ≠ a + 1 by omega, show q ≠ a + 2 by omega, show q ≠ a + 3 by omega, show q ≠ a + 4 by omega, show q ≠ a + 5 by omega, show q ≠ a + 6 by omega, show q ≠ a + 7 by omega, show q ≠ a + 8 by omega], fun q j h1 h2 => by simp only [ja_zr]; split <;> first | rfl | (split <;> first | rfl | (split <;> first | rfl | (split <;> first | rfl | (split <;> first | rfl | (split <;> first | rfl | (split <;> first | rfl | (split <;> first | rfl | (rw [show q = a by omega]; exact hz j))))))))⟩ (fun L K hP => ?_)
  obtain ⟨hLM, k1, k2, k3⟩ := hP
  have z1 : ∀ j, K (a + 1) j = 0 := fun j => k3 (a + 1) j (by omega) (by omega)
  refine r_aload_n F rfl rfl dX9_init_71 rfl ?_
  refine r_getR F f_X9_7 (hLM.1) rfl dX9_init_72 rfl ?_
  refine r_iconst F dX9_init_75 rfl ?_
  refine r_bipush F (by decide) dX9_init_76 rfl ?_
  refine r_iast F (ja_LM_1 hLM) (by omega) (by omega) (by decide) dX9_init_78 rfl ?_
  refine r_aload_n F rfl rfl dX9_init_79 rfl ?_
  refine r_getR F f_X9_7 (hLM.1) rfl dX9_init_80 rfl ?_
  refine r_iconst F dX9_init_83 rfl ?_
  refine r_bipush F (by decide) dX9_init_84 rfl ?_
  refine r_iast F (ja_LM_1 hLM) (by omega) (by omega) (by decide) dX9_init_86 rfl ?_
  refine r_aload_n F rfl rfl dX9_init_87 rfl ?_
  refine r_getR F f_X9_7 (hLM.1) rfl dX9_init_88 rfl ?_
  refine r_iconst F dX9_init_91 rfl ?_
  refine r_bipush F (by decide) dX9_init_92 rfl ?_
  refine r_iast F (ja_LM_1 hLM) (by omega) (by omega) (by decide) dX9_init_94 rfl ?_
  refine r_aload_n F rfl rfl dX9_init_95 rfl ?_
  refine r_getR F f_X9_7 (hLM.1) rfl dX9_init_96 rfl ?_
  refine r_iconst F dX9_init_99 rfl ?_
  refine r_iconst F dX9_init_100 rfl ?_
  refine r_iast F (ja_LM_1 hLM) (by omega) (by omega) (by decide) dX9_init_101 rfl ?_
  refine r_aload_n F rfl rfl dX9_init_102 rfl ?_
  refine r_getR F f_X9_7 (hLM.1) rfl dX9_init_103 rfl ?_
  refine r_iconst F dX9_init_106 rfl ?_
  refine r_iconst F dX9_init_107 rfl ?_
  refine r_iast F (ja_LM_1 hLM) (by omega) (by omega) (by decide) dX9_init_108 rfl ?_
  refine r_aload_n F rfl rfl dX9_init_109 rfl ?_
  refine r_getR F f_X9_7 (hLM.1) rfl dX9_init_110 rfl ?_
  refine r_iconst F dX9_init_113 rfl ?_
  refine r_bipush F (by decide) dX9_init_114 rfl ?_
  refine r_iast F (ja_LM_1 hLM) (by omega) (by omega) (by decide) dX9_init_116 rfl ?_
  refine r_aload_n F rfl rfl dX9_init_117 rfl ?_
  refine r_getR F f_X9_7 (hLM.1) rfl dX9_init_118 rfl ?_
  refine r_bipush F (by decide) dX9_init_121 rfl ?_
  refine r_bipush F (by decide) dX9_init_123 rfl ?_
  refine r_iast F (ja_LM_1 hLM) (by omega) (by omega) (by decide) dX9_init_125 rfl ?_
  refine r_aload_n F rfl rfl dX9_init_126 rfl ?_
  refine r_getR F f_X9_7 (hLM.1) rfl dX9_init_127 rfl ?_
  refine r_bipush F (by decide) dX9_init_130 rfl ?_
  refine r_bipush F (by decide) dX9_init_132 rfl ?_
  refine r_iast F (ja_LM_1 hLM) (by omega) (by omega) (by decide) dX9_init_134 rfl ?_
  refine r_aload_n F rfl rfl dX9_init_135 rfl ?_
  refine r_getR F f_X9_7 (hLM.1) rfl dX9_init_136 rfl ?_
  refine r_bipush F (by decide) dX9_init_139 rfl ?_
  refine r_iconst F dX9_init_141 rfl ?_
  refine r_iast F (ja_LM_1 hLM) (by omega) (by omega) (by decide) dX9_init_142 rfl ?_
  refine r_aload_n F rfl rfl dX9_init_143 rfl ?_
  refine r_getR F f_X9_7 (hLM.1) rfl dX9_init_144 rfl ?_
  refine r_bipush F (by decide) dX9_init_147 rfl ?_
  refine r_iconst F dX9_init_149 rfl ?_
  refine r_iast F (ja_LM_1 hLM) (by omega) (by omega) (by decide) dX9_init_150 rfl ?_
  exact r_vret F Rt dX9_init_151 (by decide) ⟨rfl, rfl, hLM, k1, fun q hq => by rw [ja_up_row (by omega)]; rw [ja_up_row (by omega)]; rw [ja_up_row (by omega)]; rw [ja_up_row (by omega)]; rw [ja_up_row (by omega)]; rw [ja_up_row (by omega)]; rw [ja_up_row (by omega)]; rw [ja_up_row (by omega)]; rw [ja_up_row (by omega)]; rw [ja_up_row (by omega)]; exact k2 q hq, fun j => by simp only [ja_up, N_v0, true_and, z1]; rfl, fun q j h1 h2 h3 => by rw [ja_up_row (by omega)]; rw [ja_up_row (by omega)]; rw [ja_up_row (by omega)]; rw [ja_up_row (by omega)]; rw [ja_up_row (by omega)]; rw [ja_up_row (by omega)]; rw [ja_up_row (by omega)]; rw [ja_up_row (by omega)]; rw [ja_up_row (by omega)]; rw [ja_up_row (by omega)]; exact k3 q j h1 h2⟩
