abbrev rm_X6_init : Room := { frames := 1, cells := 0, slots := 0, locals := 20 }
set_option maxRecDepth 100000 in
set_option maxHeartbeats 4000000 in
theorem c_X6_init (l : Launch) (D : va_G) (cA : Nat → ClassId) (B : Nat) {lay : ja_Y} {mem : ja_M} {a : Nat} (h0 : lay a = some (.inl (6, [none, none, none, none, none, none, none, none, none]))) (hz : ∀ j, mem a j = 0) : ja_Mt l D cA B yX6_init cX6_init 1 none rm_X6_init [.ref a] lay mem (a + 1) (fun v lay' mem' n' => none = v ∧ n' = a + 1 ∧ ja_LS lay' a ∧ (∀ q, q < a → lay' q = lay q) ∧ (∀ q, q < a → mem' q = mem q) ∧ ja_S0 mem' a) := by
  refine ja_enter [some (.ref a)] (by decide) (Nat.le_of_ble_eq_true rfl) (fun q hq => hq) (fun C F Rt G hnm => ?_)
  refine r_aload_n F rfl rfl dX6_init_0 rfl ?_
  refine r_objinit F i_X6_3 (Nat.le_of_ble_eq_true rfl) (by decide) (by decide) dX6_init_1 rfl ?_
  refine r_aload_n F rfl rfl dX6_init_4 rfl ?_
  refine r_bipush F (by decide) dX6_init_5 rfl ?_
  refine r_putI F f_X6_9 h0 rfl dX6_init_7 rfl ?_
  refine r_aload_n F rfl rfl dX6_init_10 rfl ?_
  refine r_bipush F (by decide) dX6_init_11 rfl ?_
  refine r_putI F f_X6_15 h0 rfl dX6_init_13 rfl ?_
  refine r_aload_n F rfl rfl dX6_init_16 rfl ?_
  refine r_bipush F (by decide) dX6_init_17 rfl ?_
  refine r_putI F f_X6_18 h0 rfl dX6_init_19 rfl ?_
  refine r_aload_n F rfl rfl dX6_init_22 rfl ?_
  refine r_iconst F dX6_init_23 rfl ?_
  refine r_putI F f_X6_21 h0 rfl dX6_init_24 rfl ?_
  refine r_aload_n F rfl rfl dX6_init_27 rfl ?_
  refine r_iconst F dX6_init_28 rfl ?_
  refine r_putI F f_X6_24 h0 rfl dX6_init_29 rfl ?_
  refine r_aload_n F rfl rfl dX6_init_32 rfl ?_
  refine r_bipush F (by decide) dX6_init_33 rfl ?_
  refine r_putI F f_X6_27 h0 rfl dX6_init_35 rfl ?_
  refine r_aload_n F rfl rfl dX6_init_38 rfl ?_
  refine r_bipush F (by decide) dX6_init_39 rfl ?_
  refine r_putI F f_X6_30 h0 rfl dX6_init_41 rfl ?_
  refine r_aload_n F rfl rfl dX6_init_44 rfl ?_
  refine r_bipush F (by decide) dX6_init_45 rfl ?_
  refine r_putI F f_X6_33 h0 rfl dX6_init_47 rfl ?_
  refine r_aload_n F rfl rfl dX6_init_50 rfl ?_
  refine r_iconst F dX6_init_51 rfl ?_
  refine r_putZ F (by omega) f_X6_36 h0 rfl dX6_init_52 rfl ?_
  exact r_vret F Rt dX6_init_55 (by decide) ⟨rfl, rfl, h0, fun q _ => rfl, fun q hq => by rw [ja_up_row (by omega), ja_up_row (by omega), ja_up_row (by omega), ja_up_row (by omega), ja_up_row (by omega), ja_up_row (by omega), ja_up_row (by omega), ja_up_row (by omega), ja_up_row (by omega)], ⟨by simp [ja_up], by simp [ja_up], by simp [ja_up], by simp [ja_up], by simp [ja_up], by simp [ja_up], by simp [ja_up], by simp [ja_up], by simp [ja_up]⟩⟩
abbrev rm_X2_init : Room := { frames := 1, cells := 0, slots := 0, locals := 20 }
set_option maxRecDepth 100000 in
set_option maxHeartbeats 4000000 in
theorem c_X2_init (l : Launch) (D : va_G) (cA : Nat → ClassId) (B : Nat) {lay : ja_Y} {mem : ja_M} {a : Nat} (h0 : lay a = some (.inl (2, [none, none, none, none, none, none, none, none, none]))) (hz : ∀ j, mem a j = 0) : ja_Mt l D cA B yX2_init cX2_init 1 none rm_X2_init [.ref a] lay mem (a + 1) (fun v lay' mem' n' => none = v ∧ n' = a + 1 ∧ ja_LC lay' a ∧ (∀ q, q < a → lay' q = lay q) ∧ (∀ q, q < a → mem' q = mem q) ∧ ∀ q j, a ≤ q → q < a + 1 → mem' q j = 0) := by
  refine ja_enter [some (.ref a)] (by decide) (Nat.le_of_ble_eq_true rfl) (fun q hq => hq) (fun C F Rt G hnm => ?_)
  refine r_aload_n F rfl rfl dX2_init_0 rfl ?_
  refine r_objinit F i_X2_3 (Nat.le_of_ble_eq_true rfl) (by decide) (by decide) dX2_init_1 rfl ?_
  exact r_vret F Rt dX2_init_4 (by decide) ⟨rfl, rfl, h0, fun q _ => rfl, fun q _ => rfl, fun q j h1 h2 => by rw [show q = a by omega]; exact hz j⟩
abbrev rm_X3_init : Room := { frames := 1, cells := 3, slots := 750, locals := 20 }
set_option maxRecDepth 100000 in
set_option maxHeartbeats 4000000 in
theorem c_X3_init (l : Launch) (D : va_G) (cA : Nat → ClassId) (B : Nat) {lay : ja_Y} {mem : ja_M} {a : Nat} (h0 : lay a = some (.inl (3, [some .null, some .null, some .null]))) (hz : ∀ j, mem a j = 0) : ja_Mt l D cA B yX3_init cX3_init 1 none rm_X3_init [.ref a] lay mem (a + 1) (fun v lay' mem' n' => none = v ∧ n' = a + 4 ∧ ja_LF lay' a ∧ (∀ q, q < a → lay' q = lay q) ∧ (∀ q, q < a → mem' q = mem q) ∧ ∀ q j, a ≤ q → q < a + 4 → mem' q j = 0) := by
  refine ja_enter [some (.ref a)] (by decide) (Nat.le_of_ble_eq_true rfl) (fun q hq => hq) (fun C F Rt G hnm => ?_)
  refine r_aload_n F rfl rfl dX3_init_0 rfl ?_
  refine r_objinit F i_X3_5 (Nat.le_of_ble_eq_true rfl) (by decide) (by decide) dX3_init_1 rfl ?_
  refine r_aload_n F rfl rfl dX3_init_4 rfl ?_
  refine r_sipush F (by decide) dX3_init_5 rfl ?_
  refine r_newa F (atype := .long) (kd := 1) a_long (by decide) rfl (by decide) (by decide) (by decide) (by decide) dX3_init_8 rfl ?_
  refine r_putF F hnm rfl rfl rfl f_X3_13 (ds := [some .null, some .null, some .null]) (by simp [ja_ly, h0] <;> omega) (Nat.le_of_ble_eq_true rfl) dX3_init_10 rfl ?_
  refine r_aload_n F rfl rfl dX3_init_13 rfl ?_
  refine r_sipush F (by decide) dX3_init_14 rfl ?_
  refine r_newa F (atype := .long) (kd := 1) a_long (by decide) rfl (by decide) (by decide) (by decide) (by decide) dX3_init_17 rfl ?_
  refine r_putF F hnm rfl rfl rfl f_X3_17 (ds := [some (.ref (a + 1)), some .null, some .null]) (by simp [ja_ly, h0] <;> omega) (Nat.le_of_ble_eq_true rfl) dX3_init_19 rfl ?_
  refine r_aload_n F rfl rfl dX3_init_22 rfl ?_
  refine r_sipush F (by decide) dX3_init_23 rfl ?_
  refine r_newa F (atype := .int) (kd := 0) a_int (by decide) rfl (by decide) (by decide) (by decide) (by decide) dX3_init_26 rfl ?_
  refine r_putF F hnm rfl rfl rfl f_X3_20 (ds := [some (.ref (a + 1)), some (.ref (a + 1 + 1)), some .null]) (by simp [ja_ly, h0] <;> omega) (Nat.le_of_ble_eq_true rfl) dX3_init_28 rfl ?_
  exact r_vret F Rt dX3_init_31 (by decide) ⟨rfl, rfl, ⟨by simp [ja_ly], by simp [ja_ly]; try rfl, by simp [ja_ly]; try rfl, by simp [ja_ly]; try rfl⟩, fun q hq => by simp [ja_ly, show q ≠ a by omega, show q ≠ a + 1 by omega, show q ≠ a + 2 by omega, show q ≠ a + 3 by omega], fun q hq => by funext j; simp [ja_zr, show q ≠ a by omega, show q ≠ a + 1 by omega, show q ≠ a + 2 by omega, show q ≠ a + 3 by omega], fun q j h1 h2 => by simp only [ja_zr]; split <;> first | rfl | (split <;> first | rfl | (split <;> first | rfl | (split <;> first | rfl | (split <;> first | rfl | (rw [show q = a by omega]; exact hz j)) | (rw [show q = a by omega]; exact hz j)) | (rw [show q = a by omega]; exact hz j)) | (rw [show q = a by omega]; exact hz j)) | (rw [show q = a by omega]; exact hz j)⟩
abbrev rm_X7_init : Room := { frames := 1, cells := 2, slots := 32, locals := 20 }
set_option maxRecDepth 100000 in
set_option maxHeartbeats 4000000 in
theorem c_X7_init (l : Launch) (D : va_G) (cA : Nat → ClassId) (B : Nat) {lay : ja_Y} {mem : ja_M} {a : Nat} (h0 : lay a = some (.inl (7, [some .null, some .null, none, none]))) (hz : ∀ j, mem a j = 0) : ja_Mt l D cA B yX7_init cX7_init 1 none rm_X7_init [.ref a] lay mem (a + 1) (fun v lay' mem' n' => none = v ∧ n' = a + 3 ∧ ja_LT lay' a ∧ (∀ q, q < a → lay' q = lay q) ∧ (∀ q, q < a → mem' q = mem q) ∧ ∀ q j, a ≤ q → q < a + 3 → mem' q j = 0) := by
  refine ja_enter [some (.ref a)] (by decide) (Nat.le_of_ble_eq_true rfl) (fun q hq => hq) (fun C F Rt G hnm => ?_)
  refine r_aload_n F rfl rfl dX7_init_0 rfl ?_
  refine r_objinit F i_X7_1 (Nat.le_of_ble_eq_true rfl) (by decide) (by decide) dX7_init_1 rfl ?_
  refine r_aload_n F rfl rfl dX7_init_4 rfl ?_
  refine r_bipush F (by decide) dX7_init_5 rfl ?_
  refine r_newa F (atype := .int) (kd := 0) a_int (by decide) rfl (by decide) (by decide) (by decide) (by decide) dX7_init_7 rfl ?_
  refine r_putF F hnm rfl rfl rfl f_X7_9 (ds := [some .null, some .null, none, none]) (by simp [ja_ly, h0] <;> omega) (Nat.le_of_ble_eq_true rfl) dX7_init_9 rfl ?_
  refine r_aload_n F rfl rfl dX7_init_12 rfl ?_
  refine r_bipush F (by decide) dX7_init_13 rfl ?_
  refine r_newa F (atype := .int) (kd := 0) a_int (by decide) rfl (by decide) (by decide) (by decide) (by decide) dX7_init_15 rfl ?_
  refine r_putF F hnm rfl rfl rfl f_X7_13 (ds := [some (.ref (a + 1)), some .null, none, none]) (by simp [ja_ly, h0] <;> omega) (Nat.le_of_ble_eq_true rfl) dX7_init_17 rfl ?_
  exact r_vret F Rt dX7_init_20 (by decide) ⟨rfl, rfl, ⟨by simp [ja_ly], by simp [ja_ly]; try rfl, by simp [ja_ly]; try rfl⟩, fun q hq => by simp [ja_ly, show q ≠ a by omega, show q ≠ a + 1 by omega, show q ≠ a + 2 by omega], fun q hq => by funext j; simp [ja_zr, show q ≠ a by omega, show q ≠ a + 1 by omega, show q ≠ a + 2 by omega], fun q j h1 h2 => by simp only [ja_zr]; split <;> first | rfl | (split <;> first | rfl | (split <;> first | rfl | (split <;> first | rfl | (split <;> first | rfl | (rw [show q = a by omega]; exact hz j)) | (rw [show q = a by omega]; exact hz j)) | (rw [show q = a by omega]; exact hz j)) | (rw [show q = a by omega]; exact hz j)) | (rw [show q = a by omega]; exact hz j)⟩
abbrev rm_X4_init : Room := { frames := 1, cells := 4, slots := 344, locals := 20 }
set_option maxRecDepth 100000 in
set_option maxHeartbeats 4000000 in
theorem c_X4_init (l : Launch) (D : va_G) (cA : Nat → ClassId) (B : Nat) {lay : ja_Y} {mem : ja_M} {a : Nat} (h0 : lay a = some (.inl (4, [some .null, none, none, some .null, none, some .null, none, some .null]))) (hz : ∀ j, mem a j = 0) : ja_Mt l D cA B yX4_init cX4_init 1 none rm_X4_init [.ref a] lay mem (a + 1) (fun v lay' mem' n' => none = v ∧ n' = a + 5 ∧ ja_LP lay' a ∧ (∀ q, q < a → lay' q = lay q) ∧ (∀ q, q < a → mem' q = mem q) ∧ ∀ q j, a ≤ q → q < a + 5 → mem' q j = 0) := by
  refine ja_enter [some (.ref a)] (by decide) (Nat.le_of_ble_eq_true rfl) (fun q hq => hq) (fun C F Rt G hnm => ?_)
  refine r_aload_n F rfl rfl dX4_init_0 rfl ?_
  refine r_objinit F i_X4_3 (Nat.le_of_ble_eq_true rfl) (by decide) (by decide) dX4_init_1 rfl ?_
  refine r_aload_n F rfl rfl dX4_init_4 rfl ?_
  refine r_bipush F (by decide) dX4_init_5 rfl ?_
  refine r_newa F (atype := .int) (kd := 0) a_int (by decide) rfl (by decide) (by decide) (by decide) (by decide) dX4_init_7 rfl ?_
  refine r_putF F hnm rfl rfl rfl f_X4_11 (ds := [some .null, none, none, some .null, none, some .null, none, some .null]) (by simp [ja_ly, h0] <;> omega) (Nat.le_of_ble_eq_true rfl) dX4_init_9 rfl ?_
  refine r_aload_n F rfl rfl dX4_init_12 rfl ?_
  refine r_sipush F (by decide) dX4_init_13 rfl ?_
  refine r_newa F (atype := .int) (kd := 0) a_int (by decide) rfl (by decide) (by decide) (by decide) (by decide) dX4_init_16 rfl ?_
  refine r_putF F hnm rfl rfl rfl f_X4_15 (ds := [some (.ref (a + 1)), none, none, some .null, none, some .null, none, some .null]) (by simp [ja_ly, h0] <;> omega) (Nat.le_of_ble_eq_true rfl) dX4_init_18 rfl ?_
  refine r_aload_n F rfl rfl dX4_init_21 rfl ?_
  refine r_bipush F (by decide) dX4_init_22 rfl ?_
  refine r_newa F (atype := .int) (kd := 0) a_int (by decide) rfl (by decide) (by decide) (by decide) (by decide) dX4_init_24 rfl ?_
  refine r_putF F hnm rfl rfl rfl f_X4_18 (ds := [some (.ref (a + 1)), none, none, some (.ref (a + 1 + 1)), none, some .null, none, some .null]) (by simp [ja_ly, h0] <;> omega) (Nat.le_of_ble_eq_true rfl) dX4_init_26 rfl ?_
  refine r_aload_n F rfl rfl dX4_init_29 rfl ?_
  refine r_bipush F (by decide) dX4_init_30 rfl ?_
  refine r_newa F (atype := .int) (kd := 0) a_int (by decide) rfl (by decide) (by decide) (by decide) (by decide) dX4_init_32 rfl ?_
  refine r_putF F hnm rfl rfl rfl f_X4_21 (ds := [some (.ref (a + 1)), none, none, some (.ref (a + 1 + 1)), none, some (.ref (a + 1 + 1 + 1)), none, some .null]) (by simp [ja_ly, h0] <;> omega) (Nat.le_of_ble_eq_true rfl) dX4_init_34 rfl ?_
  exact r_vret F Rt dX4_init_37 (by decide) ⟨rfl, rfl, ⟨by simp [ja_ly], by simp [ja_ly]; try rfl, by simp [ja_ly]; try rfl, by simp [ja_ly]; try rfl, by simp [ja_ly]; try rfl⟩, fun q hq => by simp [ja_ly, show q ≠ a by omega, show q ≠ a + 1 by omega, show q ≠ a + 2 by omega, show q ≠ a + 3 by omega, show q ≠ a + 4 by omega], fun q hq => by funext j; simp [ja_zr, show q ≠ a by omega, show q ≠ a + 1 by omega, show q ≠ a + 2 by omega, show q ≠ a + 3 by omega, show q ≠ a + 4 by omega], fun q j h1 h2 => by simp only [ja_zr]; split <;> first | rfl | (split <;> first | rfl | (split <;> first | rfl | (split <;> first | rfl | (split <;> first | rfl | (rw [show q = a by omega]; exact hz j)) | (rw [show q = a by omega]; exact hz j)) | (rw [show q = a by omega]; exact hz j)) | (rw [show q = a by omega]; exact hz j)) | (rw [show q = a by omega]; exact hz j)⟩
abbrev rm_X1_init : Room := { frames := 1, cells := 4, slots := 96, locals := 20 }
set_option maxRecDepth 100000 in
set_option maxHeartbeats 4000000 in
theorem c_X1_init (l : Launch) (D : va_G) (cA : Nat → ClassId) (B : Nat) {lay : ja_Y} {mem : ja_M} {a : Nat} (h0 : lay a = some (.inl (1, [some .null, some .null, some .null, some .null, none]))) (hz : ∀ j, mem a j = 0) : ja_Mt l D cA B yX1_init cX1_init 1 none rm_X1_init [.ref a] lay mem (a + 1) (fun v lay' mem' n' => none = v ∧ n' = a + 5 ∧ ja_LA lay' a ∧ (∀ q, q < a → lay' q = lay q) ∧ (∀ q, q < a → mem' q = mem q) ∧ ∀ q j, a ≤ q → q < a + 5 → mem' q j = 0) := by
  refine ja_enter [some (.ref a)] (by decide) (Nat.le_of_ble_eq_true rfl) (fun q hq => hq) (fun C F Rt G hnm => ?_)
  refine r_aload_n F rfl rfl dX1_init_0 rfl ?_
  refine r_objinit F i_X1_1 (Nat.le_of_ble_eq_true rfl) (by decide) (by decide) dX1_init_1 rfl ?_
  refine r_aload_n F rfl rfl dX1_init_4 rfl ?_
  refine r_bipush F (by decide) dX1_init_5 rfl ?_
  refine r_newa F (atype := .int) (kd := 0) a_int (by decide) rfl (by decide) (by decide) (by decide) (by decide) dX1_init_7 rfl ?_
  refine r_putF F hnm rfl rfl rfl f_X1_9 (ds := [some .null, some .null, some .null, some .null, none]) (by simp [ja_ly, h0] <;> omega) (Nat.le_of_ble_eq_true rfl) dX1_init_9 rfl ?_
  refine r_aload_n F rfl rfl dX1_init_12 rfl ?_
  refine r_bipush F (by decide) dX1_init_13 rfl ?_
  refine r_newa F (atype := .int) (kd := 0) a_int (by decide) rfl (by decide) (by decide) (by decide) (by decide) dX1_init_15 rfl ?_
  refine r_putF F hnm rfl rfl rfl f_X1_13 (ds := [some (.ref (a + 1)), some .null, some .null, some .null, none]) (by simp [ja_ly, h0] <;> omega) (Nat.le_of_ble_eq_true rfl) dX1_init_17 rfl ?_
  refine r_aload_n F rfl rfl dX1_init_20 rfl ?_
  refine r_bipush F (by decide) dX1_init_21 rfl ?_
  refine r_newa F (atype := .int) (kd := 0) a_int (by decide) rfl (by decide) (by decide) (by decide) (by decide) dX1_init_23 rfl ?_
  refine r_putF F hnm rfl rfl rfl f_X1_16 (ds := [some (.ref (a + 1)), some (.ref (a + 1 + 1)), some .null, some .null, none]) (by simp [ja_ly, h0] <;> omega) (Nat.le_of_ble_eq_true rfl) dX1_init_25 rfl ?_
  refine r_aload_n F rfl rfl dX1_init_28 rfl ?_
  refine r_bipush F (by decide) dX1_init_29 rfl ?_
  refine r_newa F (atype := .int) (kd := 0) a_int (by decide) rfl (by decide) (by decide) (by decide) (by decide) dX1_init_31 rfl ?_
  refine r_putF F hnm rfl rfl rfl f_X1_19 (ds := [some (.ref (a + 1)), some (.ref (a + 1 + 1)), some (.ref (a + 1 + 1 + 1)), some .null, none]) (by simp [ja_ly, h0] <;> omega) (Nat.le_of_ble_eq_true rfl) dX1_init_33 rfl ?_
  exact r_vret F Rt dX1_init_36 (by decide) ⟨rfl, rfl, ⟨by simp [ja_ly], by simp [ja_ly]; try rfl, by simp [ja_ly]; try rfl, by simp [ja_ly]; try rfl, by simp [ja_ly]; try rfl⟩, fun q hq => by simp [ja_ly, show q ≠ a by omega, show q ≠ a + 1 by omega, show q ≠ a + 2 by omega, show q ≠ a + 3 by omega, show q ≠ a + 4 by omega], fun q hq => by funext j; simp [ja_zr, show q ≠ a by omega, show q ≠ a + 1 by omega, show q ≠ a + 2 by omega, show q ≠ a + 3 by omega, show q ≠ a + 4 by omega], fun q j h1 h2 => by simp only [ja_zr]; split <;> first | rfl | (split <;> first | rfl | (split <;> first | rfl | (split <;> first | rfl | (split <;> first | rfl | (rw [show q = a by omega]; exact hz j)) | (rw [show q = a by omega]; exact hz j)) | (rw [show q = a by omega]; exact hz j)) | (rw [show q = a by omega]; exact hz j)) | (rw [show q = a by omega]; exact hz j)⟩
abbrev rm_X0_init : Room := { frames := 1, cells := 1, slots := 120, locals := 20 }
set_option maxRecDepth 100000 in
set_option maxHeartbeats 4000000 in
theorem c_X0_init (l : Launch) (D : va_G) (cA : Nat → ClassId) (B : Nat) {lay : ja_Y} {mem : ja_M} {a : Nat} (h0 : lay a = some (.inl (0, [some .null, none, none, none, none, none, none, none]))) (hz : ∀ j, mem a j = 0) : ja_Mt l D cA B yX0_init cX0_init 1 none rm_X0_init [.ref a] lay mem (a + 1) (fun v lay' mem' n' => none = v ∧ n' = a + 2 ∧ ja_LX lay' a ∧ (∀ q, q < a → lay' q = lay q) ∧ (∀ q, q < a → mem' q = mem q) ∧ ∀ q j, a ≤ q → q < a + 2 → mem' q j = 0) := by
  refine ja_enter [some (.ref a)] (by decide) (Nat.le_of_ble_eq_true rfl) (fun q hq => hq) (fun C F Rt G hnm => ?_)
  refine r_aload_n F rfl rfl dX0_init_0 rfl ?_
  refine r_objinit F i_X0_3 (Nat.le_of_ble_eq_true rfl) (by decide) (by decide) dX0_init_1 rfl ?_
  refine r_aload_n F rfl rfl dX0_init_4 rfl ?_
  refine r_bipush F (by decide) dX0_init_5 rfl ?_
  refine r_newa F (atype := .int) (kd := 0) a_int (by decide) rfl (by decide) (by decide) (by decide) (by decide) dX0_init_7 rfl ?_
  refine r_putF F hnm rfl rfl rfl f_X0_11 (ds := [some .null, none, none, none, none, none, none, none]) (by simp [ja_ly, h0] <;> omega) (Nat.le_of_ble_eq_true rfl) dX0_init_9 rfl ?_
  exact r_vret F Rt dX0_init_12 (by decide) ⟨rfl, rfl, ⟨by simp [ja_ly], by simp [ja_ly]; try rfl⟩, fun q hq => by simp [ja_ly, show q ≠ a by omega, show q ≠ a + 1 by omega], fun q hq => by funext j; simp [ja_zr, show q ≠ a by omega, show q ≠ a + 1 by omega], fun q j h1 h2 => by simp only [ja_zr]; split <;> first | rfl | (split <;> first | rfl | (split <;> first | rfl | (split <;> first | rfl | (split <;> first | rfl | (rw [show q = a by omega]; exact hz j)) | (rw [show q = a by omega]; exact hz j)) | (rw [show q = a by omega]; exact hz j)) | (rw [show q = a by omega]; exact hz j)) | (rw [show q = a by omega]; exact hz j)⟩
