-- the same of a long
def J_ga (x : Int64) : Int64 := x - ((x.toUInt64 >>> ((ja_I 1).toInt64.toUInt64 &&& Int64.toUInt64 63)).toInt64 &&& 6148914691236517205)
def J_gb (a : Int64) : Int64 := (a &&& 3689348814741910323) + ((a.toUInt64 >>> ((ja_I 2).toInt64.toUInt64 &&& Int64.toUInt64 63)).toInt64 &&& 3689348814741910323)
def J_gc (b : Int64) : Int64 := b + (b.toUInt64 >>> ((ja_I 4).toInt64.toUInt64 &&& Int64.toUInt64 63)).toInt64 &&& 1085102592571150095
def J_gd (s : Int) (c : Int64) : Int64 := c + (c.toUInt64 >>> ((ja_I s).toInt64.toUInt64 &&& Int64.toUInt64 63)).toInt64
theorem J_l85 : (6148914691236517205 : UInt64).toNat = J_M 85 8 := by decide +kernel
theorem J_l51 : (3689348814741910323 : UInt64).toNat = J_M 51 8 := by decide +kernel
theorem J_l15 : (1085102592571150095 : UInt64).toNat = J_M 15 8 := by decide +kernel
theorem J_m51 : J_M 51 8 = 3689348814741910323 := by decide +kernel
theorem J_m15 : J_M 15 8 = 1085102592571150095 := by decide +kernel
theorem J_bc_g (x : Int64) : J_bc x = ((J_gd 32 (J_gd 16 (J_gd 8 (J_gc (J_gb (J_ga x)))))).toInt32 &&& ja_I 127).toInt := rfl
theorem J_nu (x : Int64) (s : UInt64) (k d : Nat) (hs : s.toNat % 64 = k) (hd : 2 ^ k = d) : (x.toUInt64 >>> s).toNat = x.toUInt64.toNat / d := by
  rw [UInt64.toNat_shiftRight, hs, Nat.shiftRight_eq_div_pow, hd]
theorem J_ga_u (x : Int64) : (J_ga x).toUInt64.toNat = J_A 8 x.toUInt64.toNat := by
  have e : (J_ga x).toUInt64 = x.toUInt64 - ((x.toUInt64 >>> ((ja_I 1).toInt64.toUInt64 &&& Int64.toUInt64 63)) &&& 6148914691236517205) := rfl
  have h1 : ((x.toUInt64 >>> ((ja_I 1).toInt64.toUInt64 &&& Int64.toUInt64 63)) &&& 6148914691236517205).toNat = (x.toUInt64.toNat / 2 &&& J_M 85 8) := by
    rw [UInt64.toNat_and, J_nu x _ 1 2 (by decide +kernel) (by decide), J_l85]
  have h2 : (x.toUInt64.toNat / 2 &&& J_M 85 8) ≤ x.toUInt64.toNat / 2 := Nat.and_le_left
  rw [e, UInt64.toNat_sub_of_le _ _ (by rw [UInt64.le_iff_toNat_le, h1]; omega), h1]
  rfl
theorem J_gb_u (x : Int64) : (J_gb x).toUInt64.toNat = J_B 8 x.toUInt64.toNat := by
  have e : (J_gb x).toUInt64 = (x.toUInt64 &&& 3689348814741910323) + ((x.toUInt64 >>> ((ja_I 2).toInt64.toUInt64 &&& Int64.toUInt64 63)) &&& 3689348814741910323) := rfl
  have h1 : ((x.toUInt64 >>> ((ja_I 2).toInt64.toUInt64 &&& Int64.toUInt64 63)) &&& 3689348814741910323).toNat = (x.toUInt64.toNat / 4 &&& J_M 51 8) := by
    rw [UInt64.toNat_and, J_nu x _ 2 4 (by decide +kernel) (by decide), J_l51]
  have h2 : (x.toUInt64 &&& 3689348814741910323).toNat = (x.toUInt64.toNat &&& J_M 51 8) := by
    rw [UInt64.toNat_and, J_l51]
  have h3 : (x.toUInt64.toNat / 4 &&& J_M 51 8) ≤ J_M 51 8 := Nat.and_le_right
  have h4 : (x.toUInt64.toNat &&& J_M 51 8) ≤ J_M 51 8 := Nat.and_le_right
  have h5 := J_m51
  rw [e, UInt64.toNat_add, h1, h2, Nat.mod_eq_of_lt (by rw [h5] at h3 h4; rw [h5]; omega)]
  rfl
theorem J_gc_u (x : Int64) (h : x.toUInt64.toNat ≤ 7378697629483820646) : (J_gc x).toUInt64.toNat = J_C 8 x.toUInt64.toNat := by
  have e : (J_gc x).toUInt64 = (x.toUInt64 + (x.toUInt64 >>> ((ja_I 4).toInt64.toUInt64 &&& Int64.toUInt64 63))) &&& 1085102592571150095 := rfl
  rw [e, UInt64.toNat_and, UInt64.toNat_add, J_nu x _ 4 16 (by decide +kernel) (by decide), Nat.mod_eq_of_lt (by omega), J_l15]
  rfl
theorem J_gd_u {s : Int} {k d : Nat} (hs : ((ja_I s).toInt64.toUInt64 &&& Int64.toUInt64 63).toNat % 64 = k) (hd : 2 ^ k = d) (x : Int64) (h : x.toUInt64.toNat < 9223372036854775808) : (J_gd s x).toUInt64.toNat = x.toUInt64.toNat + x.toUInt64.toNat / d := by
  have e : (J_gd s x).toUInt64 = x.toUInt64 + (x.toUInt64 >>> ((ja_I s).toInt64.toUInt64 &&& Int64.toUInt64 63)) := rfl
  have hd2 : x.toUInt64.toNat / d ≤ x.toUInt64.toNat := Nat.div_le_self _ _
  rw [e, UInt64.toNat_add, J_nu x _ k d hs hd, Nat.mod_eq_of_lt (by omega)]
theorem J_and127n : ∀ e : Fin 128, e.val &&& 127 = e.val := by decide +kernel
theorem J_i7 (f : Int64) : (f.toInt32 &&& ja_I 127).toInt = ((f.toUInt64.toNat % 128 : Nat) : Int) := by
  have hb : (f.toInt32 &&& ja_I 127).toBitVec.toNat = f.toUInt64.toNat % 128 := by
    have e : (f.toInt32 &&& ja_I 127).toBitVec = f.toBitVec.signExtend 32 &&& 127#32 := rfl
    rw [e, BitVec.signExtend_eq_setWidth_of_le _ (by omega), BitVec.toNat_and, BitVec.toNat_setWidth]
    have e2 : (127#32).toNat = 2 ^ 7 - 1 := rfl
    rw [e2, Nat.and_two_pow_sub_one_eq_mod]
    show f.toUInt64.toNat % 2 ^ 32 % 2 ^ 7 = _
    omega
  show (f.toInt32 &&& ja_I 127).toBitVec.toInt = _
  rw [BitVec.toInt_eq_toNat_of_lt (by rw [hb]; omega), hb]
theorem J_bc_u (x : Int64) : J_bc x = ((J_pc 64 x.toUInt64.toNat : Nat) : Int) := by
  have ha := J_ga_u x
  have hb := J_gb_u (J_ga x)
  have h3 : (J_A 8 x.toUInt64.toNat / 4 &&& J_M 51 8) ≤ J_M 51 8 := Nat.and_le_right
  have h4 : (J_A 8 x.toUInt64.toNat &&& J_M 51 8) ≤ J_M 51 8 := Nat.and_le_right
  have h5 := J_m51
  have hb2 : (J_gb (J_ga x)).toUInt64.toNat ≤ 7378697629483820646 := by
    rw [hb, ha]
    unfold J_B
    omega
  have hc := J_gc_u (J_gb (J_ga x)) hb2
  have hcP : (J_gc (J_gb (J_ga x))).toUInt64.toNat = J_P 8 x.toUInt64.toNat := by
    rw [hc, hb, ha]
    rfl
  have hcl : J_P 8 x.toUInt64.toNat ≤ J_M 15 8 := Nat.and_le_right
  have h6 := J_m15
  have hd := J_gd_u (s := 8) (k := 8) (d := 256) (by decide +kernel) (by decide) (J_gc (J_gb (J_ga x))) (by omega)
  have he := J_gd_u (s := 16) (k := 16) (d := 65536) (by decide +kernel) (by decide) (J_gd 8 (J_gc (J_gb (J_ga x)))) (by omega)
  have hf := J_gd_u (s := 32) (k := 32) (d := 4294967296) (by decide +kernel) (by decide) (J_gd 16 (J_gd 8 (J_gc (J_gb (J_ga x))))) (by omega)
  have hs := J_sum x.toUInt64.toNat _ _ _ _ hcP hd he hf
  rw [J_bc_g, J_i7, hs, J_Q_pc]
