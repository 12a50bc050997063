-- HOW MANY BITS ARE SET
def J_M (m : Nat) : Nat → Nat
  | 0 => 0
  | k + 1 => 256 * J_M m k + m
theorem J_and8 (m u k : Nat) (hm : m < 256) : u &&& J_M m (k + 1) = 256 * (u / 256 &&& J_M m k) + (u % 256 &&& m) := by
  have h1 : (u &&& (256 * J_M m k + m)) / 2 ^ 8 = u / 2 ^ 8 &&& (256 * J_M m k + m) / 2 ^ 8 := Nat.and_div_two_pow
  have h2 : (u &&& (256 * J_M m k + m)) % 2 ^ 8 = (u % 2 ^ 8) &&& ((256 * J_M m k + m) % 2 ^ 8) := Nat.and_mod_two_pow
  rw [show (2 : Nat) ^ 8 = 256 from rfl] at h1 h2
  rw [show (256 * J_M m k + m) / 256 = J_M m k by omega] at h1
  rw [show (256 * J_M m k + m) % 256 = m by omega] at h2
  show u &&& (256 * J_M m k + m) = _
  generalize u &&& (256 * J_M m k + m) = w at *
  omega
def J_A (k u : Nat) : Nat := u - (u / 2 &&& J_M 85 k)
def J_A1 (d : Nat) : Nat := d - (d / 2 &&& 85)
def J_B (k a : Nat) : Nat := (a &&& J_M 51 k) + (a / 4 &&& J_M 51 k)
def J_B1 (d : Nat) : Nat := (d &&& 51) + (d / 4 &&& 51)
def J_C (k b : Nat) : Nat := (b + b / 16) &&& J_M 15 k
def J_C1 (d : Nat) : Nat := (d + d / 16) &&& 15
def J_p8 (d : Nat) : Nat := J_C1 (J_B1 (J_A1 d))
theorem J_dA : ∀ e : Fin 512, e.val / 2 % 256 &&& 85 = e.val % 256 / 2 &&& 85 := by decide +kernel
theorem J_dB : ∀ e : Fin 1024, e.val / 4 % 256 &&& 51 = e.val % 256 / 4 &&& 51 := by decide +kernel
theorem J_dC : ∀ e : Fin 256, e.val &&& 15 = e.val % 16 := by decide +kernel
theorem J_dP : ∀ d : Fin 256, J_A1 d.val < 256 ∧ J_B1 (J_A1 d.val) % 16 ≤ 4 ∧ J_B1 (J_A1 d.val) ≤ 68 ∧ J_p8 d.val ≤ 8 := by decide +kernel
theorem J_A_s (k u : Nat) : J_A (k + 1) u = 256 * J_A k (u / 256) + J_A1 (u % 256) := by
  have h := J_dA ⟨u % 512, by omega⟩
  simp only at h
  rw [show u % 512 / 2 % 256 = u / 2 % 256 by omega, show u % 512 % 256 = u % 256 by omega] at h
  have e := J_and8 85 (u / 2) k (by omega)
  rw [show u / 2 / 256 = u / 256 / 2 by omega, h] at e
  unfold J_A J_A1
  rw [e]
  have h1 : (u / 256 / 2 &&& J_M 85 k) ≤ u / 256 / 2 := Nat.and_le_left
  have h2 : (u % 256 / 2 &&& 85) ≤ u % 256 / 2 := Nat.and_le_left
  generalize (u / 256 / 2 &&& J_M 85 k) = X at *
  generalize (u % 256 / 2 &&& 85) = Y at *
  omega
theorem J_B_s (k a : Nat) : J_B (k + 1) a = 256 * J_B k (a / 256) + J_B1 (a % 256) := by
  have h := J_dB ⟨a % 1024, by omega⟩
  simp only at h
  rw [show a % 1024 / 4 % 256 = a / 4 % 256 by omega, show a % 1024 % 256 = a % 256 by omega] at h
  have e1 := J_and8 51 (a / 4) k (by omega)
  rw [show a / 4 / 256 = a / 256 / 4 by omega, h] at e1
  have e2 := J_and8 51 a k (by omega)
  unfold J_B J_B1
  rw [e1, e2]
  omega
theorem J_C_s (k b : Nat) (h4 : b / 256 % 16 ≤ 4) (h68 : b % 256 ≤ 68) : J_C (k + 1) b = 256 * J_C k (b / 256) + J_C1 (b % 256) := by
  have e := J_and8 15 (b + b / 16) k (by omega)
  have g1 := J_dC ⟨(b + b / 16) % 256, by omega⟩
  have g2 := J_dC ⟨b % 256 + b % 256 / 16, by omega⟩
  simp only at g1 g2
  rw [g1, show (b + b / 16) / 256 = b / 256 + b / 256 / 16 by omega] at e
  unfold J_C J_C1
  have hb : b / 16 = 16 * (b / 256) + b % 256 / 16 := by omega
  have hw : (b + b / 16) % 16 = (b % 256 + b % 256 / 16) % 16 := by omega
  rw [e, g2, show (b + b / 16) % 256 % 16 = (b + b / 16) % 16 by omega, hw]
def J_P (k u : Nat) : Nat := J_C k (J_B k (J_A k u))
theorem J_P_s (k u : Nat) : J_P (k + 1) u = 256 * J_P k (u / 256) + J_p8 (u % 256) ∧ J_B (k + 1) (J_A (k + 1) u) % 16 ≤ 4 := by
  obtain ⟨d1, d2, d3, -⟩ := J_dP ⟨u % 256, by omega⟩
  simp only at d1 d2 d3
  have ea := J_A_s k u
  have eb := J_B_s k (J_A (k + 1) u)
  rw [show J_A (k + 1) u / 256 = J_A k (u / 256) by omega, show J_A (k + 1) u % 256 = J_A1 (u % 256) by omega] at eb
  have h4 : J_B k (J_A k (u / 256)) % 16 ≤ 4 := by
    cases k with
    | zero =>
      show ((J_A 0 (u / 256) &&& 0) + (J_A 0 (u / 256) / 4 &&& 0)) % 16 ≤ 4
      rw [Nat.and_zero, Nat.and_zero]
      decide
    | succ k => exact (J_P_s k (u / 256)).2
  refine ⟨?_, by omega⟩
  unfold J_P
  rw [J_C_s k _ (by rw [eb]; omega) (by rw [eb]; omega)]
  unfold J_p8
  rw [show J_B (k + 1) (J_A (k + 1) u) / 256 = J_B k (J_A k (u / 256)) by omega, show J_B (k + 1) (J_A (k + 1) u) % 256 = J_B1 (J_A1 (u % 256)) by omega]
/-- counted from the low end -/
def J_pc : Nat → Nat → Nat
  | 0, _ => 0
  | k + 1, n => n % 2 + J_pc k (n / 2)
theorem J_dQ : ∀ d : Fin 256, J_p8 d.val = J_pc 8 d.val := by decide +kernel
theorem J_pc8 (k u : Nat) : J_pc (k + 8) u = J_pc 8 (u % 256) + J_pc k (u / 256) := by
  simp only [J_pc]
  rw [show u / 2 / 2 / 2 / 2 / 2 / 2 / 2 / 2 = u / 256 by omega]
  omega
def J_Q : Nat → Nat → Nat
  | 0, _ => 0
  | k + 1, u => J_p8 (u % 256) + J_Q k (u / 256)
theorem J_Q_pc : ∀ k u : Nat, J_Q k u = J_pc (8 * k) u
  | 0, u => rfl
  | k + 1, u => by
    have h := J_dQ ⟨u % 256, by omega⟩
    simp only at h
    simp only [J_Q]
    rw [show 8 * (k + 1) = 8 * k + 8 by omega, J_pc8, J_Q_pc k (u / 256), h]
/-- the last additions -/
theorem J_dv (m s c : Nat) (h : s < m) : (s + m * c) / m = c := by
  rw [Nat.add_mul_div_left _ _ (by omega), Nat.div_eq_of_lt h, Nat.zero_add]
theorem J_s8 {s0 s1 s2 s3 s4 s5 s6 s7 c : Nat} (hc : c = s0 + 256 * (s1 + 256 * (s2 + 256 * (s3 + 256 * (s4 + 256 * (s5 + 256 * (s6 + 256 * s7))))))) (h0 : s0 ≤ 8) : c + c / 256 = (s0 + s1 + 256 * (s1 + s2)) + 65536 * (s2 + s3 + 256 * (s3 + s4 + 256 * (s4 + s5 + 256 * (s5 + s6 + 256 * (s6 + s7 + 256 * s7))))) := by
  have h := J_dv 256 s0 (s1 + 256 * (s2 + 256 * (s3 + 256 * (s4 + 256 * (s5 + 256 * (s6 + 256 * s7)))))) (by omega)
  rw [hc, h]
  clear h hc h0
  omega
theorem J_s16 {s0 s1 s2 s3 s4 s5 s6 s7 d : Nat} (hd : d = (s0 + s1 + 256 * (s1 + s2)) + 65536 * (s2 + s3 + 256 * (s3 + s4 + 256 * (s4 + s5 + 256 * (s5 + s6 + 256 * (s6 + s7 + 256 * s7)))))) (h : s0 + s1 + 256 * (s1 + s2) < 65536) : d + d / 65536 = (s0 + s1 + s2 + s3 + 256 * (s1 + s2 + s3 + s4) + 65536 * (s2 + s3 + s4 + s5) + 16777216 * (s3 + s4 + s5 + s6)) + 4294967296 * (s4 + s5 + s6 + s7 + 256 * (s5 + s6 + s7) + 65536 * (s6 + s7) + 16777216 * s7) := by
  have g := J_dv 65536 (s0 + s1 + 256 * (s1 + s2)) (s2 + s3 + 256 * (s3 + s4 + 256 * (s4 + s5 + 256 * (s5 + s6 + 256 * (s6 + s7 + 256 * s7))))) h
  rw [hd, g]
  clear g hd h
  omega
theorem J_s32 {a b e : Nat} (he : e = a + 4294967296 * b) (h : a < 4294967296) : e + e / 4294967296 = a + 4294967296 * b + b := by
  have g := J_dv 4294967296 a b h
  rw [he, g]
theorem J_sum (u : Nat) : ∀ c d e f : Nat, c = J_P 8 u → d = c + c / 256 → e = d + d / 65536 → f = e + e / 4294967296 → f % 128 = J_Q 8 u := by
  intro c d e f hc hd he hf
  have s (k u : Nat) := (J_P_s k u).1
  have b (u : Nat) : J_p8 (u % 256) ≤ 8 := (J_dP ⟨u % 256, by omega⟩).2.2.2
  have z : ∀ w, J_P 0 w = 0 := fun w => by
    unfold J_P J_C
    exact Nat.and_zero _
  rw [s, s, s, s, s, s, s, s, z] at hc
  simp only [J_Q]
  have b0 := b u
  have b1 := b (u / 256)
  have b2 := b (u / 256 / 256)
  have b3 := b (u / 256 / 256 / 256)
  have b4 := b (u / 256 / 256 / 256 / 256)
  have b5 := b (u / 256 / 256 / 256 / 256 / 256)
  have b6 := b (u / 256 / 256 / 256 / 256 / 256 / 256)
  have b7 := b (u / 256 / 256 / 256 / 256 / 256 / 256 / 256)
  generalize J_p8 (u % 256) = s0 at *
  generalize J_p8 (u / 256 % 256) = s1 at *
  generalize J_p8 (u / 256 / 256 % 256) = s2 at *
  generalize J_p8 (u / 256 / 256 / 256 % 256) = s3 at *
  generalize J_p8 (u / 256 / 256 / 256 / 256 % 256) = s4 at *
  generalize J_p8 (u / 256 / 256 / 256 / 256 / 256 % 256) = s5 at *
  generalize J_p8 (u / 256 / 256 / 256 / 256 / 256 / 256 % 256) = s6 at *
  generalize J_p8 (u / 256 / 256 / 256 / 256 / 256 / 256 / 256 % 256) = s7 at *
  clear s b z
  have hc2 : c = s0 + 256 * (s1 + 256 * (s2 + 256 * (s3 + 256 * (s4 + 256 * (s5 + 256 * (s6 + 256 * s7)))))) := by
    rw [hc]
    clear hc hd he hf b0 b1 b2 b3 b4 b5 b6 b7
    omega
  rw [J_s8 hc2 b0] at hd
  clear hc hc2
  have hl : s0 + s1 + 256 * (s1 + s2) < 65536 := by
    clear hd he hf
    omega
  rw [J_s16 hd hl] at he
  clear hd hl
  have hl2 : s0 + s1 + s2 + s3 + 256 * (s1 + s2 + s3 + s4) + 65536 * (s2 + s3 + s4 + s5) + 16777216 * (s3 + s4 + s5 + s6) < 4294967296 := by
    clear he hf
    omega
  rw [J_s32 he hl2] at hf
  clear he hl2
  have f1 : f = (s0 + s1 + s2 + s3 + s4 + s5 + s6 + s7) + 128 * (2 * (s1 + s2 + s3 + s4 + s5 + s6 + s7) + 512 * (s2 + s3 + s4 + s5 + s6 + s7) + 131072 * (s3 + s4 + s5 + s6 + s7) + 33554432 * (s4 + s5 + s6 + s7) + 8589934592 * (s5 + s6 + s7) + 2199023255552 * (s6 + s7) + 562949953421312 * s7) := by
    rw [hf]
    clear hf b0 b1 b2 b3 b4 b5 b6 b7
    omega
  rw [f1, Nat.add_mul_mod_self_left, Nat.mod_eq_of_lt (by clear f1 hf; omega)]
  clear f1 hf b0 b1 b2 b3 b4 b5 b6 b7
  omega
-- the same of a long
def J_ga (x : Int64) : Int64 := x - ((x.toUInt64 >>> ((ja_I 1).toInt64.toUInt64 &&& Int64.toUInt64 63)).toInt64 &&& 6148914691236517205)
def J_gb (a : Int64) : Int64 := (a &&& 3689348814741910323) + ((a.toUInt64 >>> ((ja_I 2).toInt64.toUInt64 &&& Int64.toUInt64 63)).toInt64 &&& 3689348814741910323)
def J_gc (b : Int64) : Int64 := b + (b.toUInt64 >>> ((ja_I 4).toInt64.toUInt64 &&& Int64.toUInt64 63)).toInt64 &&& 1085102592571150095
def J_gd (s : Int) (c : Int64) : Int64 := c + (c.toUInt64 >>> ((ja_I s).toInt64.toUInt64 &&& Int64.toUInt64 63)).toInt64
theorem J_l85 : (6148914691236517205 : UInt64).toNat = J_M 85 8 := by decide +kernel
theorem J_l51 : (3689348814741910323 : UInt64).toNat = J_M 51 8 := by decide +kernel
theorem J_l15 : (1085102592571150095 : UInt64).toNat = J_M 15 8 := by decide +kernel
theorem J_m51 : J_M 51 8 = 3689348814741910323 := by decide +kernel
theorem J_m15 : J_M 15 8 = 1085102592571150095 := by decide +kernel
theorem J_bc_g (x : Int64) : J_bc x = ((J_gd 32 (J_gd 16 (J_gd 8 (J_gc (J_gb (J_ga x)))))).toInt32 &&& ja_I 127).toInt := rfl
theorem J_nu (x : Int64) (s : UInt64) (k d : Nat) (hs : s.toNat % 64 = k) (hd : 2 ^ k = d) : (x.toUInt64 >>> s).toNat = x.toUInt64.toNat / d := by
  rw [UInt64.toNat_shiftRight, hs, Nat.shiftRight_eq_div_pow, hd]
theorem J_ga_u (x : Int64) : (J_ga x).toUInt64.toNat = J_A 8 x.toUInt64.toNat := by
  have e : (J_ga x).toUInt64 = x.toUInt64 - ((x.toUInt64 >>> ((ja_I 1).toInt64.toUInt64 &&& Int64.toUInt64 63)) &&& 6148914691236517205) := rfl
  have h1 : ((x.toUInt64 >>> ((ja_I 1).toInt64.toUInt64 &&& Int64.toUInt64 63)) &&& 6148914691236517205).toNat = (x.toUInt64.toNat / 2 &&& J_M 85 8) := by
    rw [UInt64.toNat_and, J_nu x _ 1 2 (by decide +kernel) (by decide), J_l85]
  have h2 : (x.toUInt64.toNat / 2 &&& J_M 85 8) ≤ x.toUInt64.toNat / 2 := Nat.and_le_left
  rw [e, UInt64.toNat_sub_of_le _ _ (by rw [UInt64.le_iff_toNat_le, h1]; omega), h1]
  rfl
theorem J_gb_u (x : Int64) : (J_gb x).toUInt64.toNat = J_B 8 x.toUInt64.toNat := by
  have e : (J_gb x).toUInt64 = (x.toUInt64 &&& 3689348814741910323) + ((x.toUInt64 >>> ((ja_I 2).toInt64.toUInt64 &&& Int64.toUInt64 63)) &&& 3689348814741910323) := rfl
  have h1 : ((x.toUInt64 >>> ((ja_I 2).toInt64.toUInt64 &&& Int64.toUInt64 63)) &&& 3689348814741910323).toNat = (x.toUInt64.toNat / 4 &&& J_M 51 8) := by
    rw [UInt64.toNat_and, J_nu x _ 2 4 (by decide +kernel) (by decide), J_l51]
  have h2 : (x.toUInt64 &&& 3689348814741910323).toNat = (x.toUInt64.toNat &&& J_M 51 8) := by
    rw [UInt64.toNat_and, J_l51]
  have h3 : (x.toUInt64.toNat / 4 &&& J_M 51 8) ≤ J_M 51 8 := Nat.and_le_right
  have h4 : (x.toUInt64.toNat &&& J_M 51 8) ≤ J_M 51 8 := Nat.and_le_right
  have h5 := J_m51
  rw [e, UInt64.toNat_add, h1, h2, Nat.mod_eq_of_lt (by rw [h5] at h3 h4; rw [h5]; omega)]
  rfl
theorem J_gc_u (x : Int64) (h : x.toUInt64.toNat ≤ 7378697629483820646) : (J_gc x).toUInt64.toNat = J_C 8 x.toUInt64.toNat := by
  have e : (J_gc x).toUInt64 = (x.toUInt64 + (x.toUInt64 >>> ((ja_I 4).toInt64.toUInt64 &&& Int64.toUInt64 63))) &&& 1085102592571150095 := rfl
  rw [e, UInt64.toNat_and, UInt64.toNat_add, J_nu x _ 4 16 (by decide +kernel) (by decide), Nat.mod_eq_of_lt (by omega), J_l15]
  rfl
theorem J_gd_u {s : Int} {k d : Nat} (hs : ((ja_I s).toInt64.toUInt64 &&& Int64.toUInt64 63).toNat % 64 = k) (hd : 2 ^ k = d) (x : Int64) (h : x.toUInt64.toNat < 9223372036854775808) : (J_gd s x).toUInt64.toNat = x.toUInt64.toNat + x.toUInt64.toNat / d := by
  have e : (J_gd s x).toUInt64 = x.toUInt64 + (x.toUInt64 >>> ((ja_I s).toInt64.toUInt64 &&& Int64.toUInt64 63)) := rfl
  have hd2 : x.toUInt64.toNat / d ≤ x.toUInt64.toNat := Nat.div_le_self _ _
  rw [e, UInt64.toNat_add, J_nu x _ k d hs hd, Nat.mod_eq_of_lt (by omega)]
theorem J_and127n : ∀ e : Fin 128, e.val &&& 127 = e.val := by decide +kernel
theorem J_i7 (f : Int64) : (f.toInt32 &&& ja_I 127).toInt = ((f.toUInt64.toNat % 128 : Nat) : Int) := by
  have hb : (f.toInt32 &&& ja_I 127).toBitVec.toNat = f.toUInt64.toNat % 128 := by
    have e : (f.toInt32 &&& ja_I 127).toBitVec = f.toBitVec.signExtend 32 &&& 127#32 := rfl
    rw [e, BitVec.signExtend_eq_setWidth_of_le _ (by omega), BitVec.toNat_and, BitVec.toNat_setWidth]
    have e2 : (127#32).toNat = 2 ^ 7 - 1 := rfl
    rw [e2, Nat.and_two_pow_sub_one_eq_mod]
    show f.toUInt64.toNat % 2 ^ 32 % 2 ^ 7 = _
    omega
  show (f.toInt32 &&& ja_I 127).toBitVec.toInt = _
  rw [BitVec.toInt_eq_toNat_of_lt (by rw [hb]; omega), hb]
theorem J_bc_u (x : Int64) : J_bc x = ((J_pc 64 x.toUInt64.toNat : Nat) : Int) := by
  have ha := J_ga_u x
  have hb := J_gb_u (J_ga x)
  have h3 : (J_A 8 x.toUInt64.toNat / 4 &&& J_M 51 8) ≤ J_M 51 8 := Nat.and_le_right
  have h4 : (J_A 8 x.toUInt64.toNat &&& J_M 51 8) ≤ J_M 51 8 := Nat.and_le_right
  have h5 := J_m51
  have hb2 : (J_gb (J_ga x)).toUInt64.toNat ≤ 7378697629483820646 := by
    rw [hb, ha]
    unfold J_B
    omega
  have hc := J_gc_u (J_gb (J_ga x)) hb2
  have hcP : (J_gc (J_gb (J_ga x))).toUInt64.toNat = J_P 8 x.toUInt64.toNat := by
    rw [hc, hb, ha]
    rfl
  have hcl : J_P 8 x.toUInt64.toNat ≤ J_M 15 8 := Nat.and_le_right
  have h6 := J_m15
  have hd := J_gd_u (s := 8) (k := 8) (d := 256) (by decide +kernel) (by decide) (J_gc (J_gb (J_ga x))) (by omega)
  have he := J_gd_u (s := 16) (k := 16) (d := 65536) (by decide +kernel) (by decide) (J_gd 8 (J_gc (J_gb (J_ga x)))) (by omega)
  have hf := J_gd_u (s := 32) (k := 32) (d := 4294967296) (by decide +kernel) (by decide) (J_gd 16 (J_gd 8 (J_gc (J_gb (J_ga x))))) (by omega)
  have hs := J_sum x.toUInt64.toNat _ _ _ _ hcP hd he hf
  rw [J_bc_g, J_i7, hs, J_Q_pc]
-- bits
abbrev J_b (x : Int64) (c : Nat) : Bool := x.toBitVec.getLsbD c
theorem J_t1 : true.toNat = 1 := rfl
theorem J_t0 : false.toNat = 0 := rfl
/-- how many of the first k -/
def J_ct (P : Nat → Bool) : Nat → Nat
  | 0 => 0
  | k + 1 => J_ct P k + (P k).toNat
theorem J_ct_s (P : Nat → Bool) (k : Nat) : J_ct P (k + 1) = J_ct P k + (P k).toNat := rfl
theorem J_ct_l (P : Nat → Bool) : ∀ k : Nat, J_ct P (k + 1) = (P 0).toNat + J_ct (fun c => P (c + 1)) k
  | 0 => by
    simp only [J_ct]
    omega
  | k + 1 => by
    rw [J_ct_s P (k + 1), J_ct_l P k, J_ct_s _ k]
    omega
theorem J_pc_ct : ∀ k n : Nat, J_pc k n = J_ct (fun c => n.testBit c) k
  | 0, n => rfl
  | k + 1, n => by
    have e : (fun c => n.testBit (c + 1)) = fun c => (n / 2).testBit c := by
      funext c
      exact Nat.testBit_succ n c
    have e0 : (n.testBit 0).toNat = n % 2 := by
      rw [Nat.testBit_zero]
      rcases Nat.mod_two_eq_zero_or_one n with h | h
      · rw [h]
        rfl
      · rw [h]
        rfl
    rw [J_ct_l, e, e0, ← J_pc_ct k (n / 2)]
    rfl
/-- THE NUMBER OF BITS -/
theorem J_bc_ct (x : Int64) : J_bc x = ((J_ct (J_b x) 64 : Nat) : Int) := by
  rw [J_bc_u, J_pc_ct]
  rfl
theorem J_ct_e {P Q : Nat → Bool} : ∀ k : Nat, (∀ c, c < k → P c = Q c) → J_ct P k = J_ct Q k
  | 0, _ => rfl
  | k + 1, h => by
    rw [J_ct_s, J_ct_s, J_ct_e k (fun c hc => h c (by omega)), h k (by omega)]
theorem J_ct_u {P : Nat → Bool} {i : Nat} (hP : P i = false) : ∀ k : Nat, J_ct (fun c => if c = i then true else P c) k = J_ct P k + if i < k then 1 else 0
  | 0 => rfl
  | k + 1 => by
    rw [J_ct_s, J_ct_s, J_ct_u hP k]
    by_cases h : k = i
    · have e : (if k = i then true else P k) = true := if_pos h
      rw [e, h, hP, if_neg (by omega), if_pos (by omega)]
      rfl
    · have e : (if k = i then true else P k) = P k := if_neg h
      rw [e]
      by_cases h2 : i < k
      · rw [if_pos h2, if_pos (show i < k + 1 by omega)]
        omega
      · rw [if_neg h2, if_neg (show ¬ i < k + 1 by omega)]
        omega
theorem J_ct_z {P : Nat → Bool} : ∀ k : Nat, (∀ c, c < k → P c = false) → J_ct P k = 0
  | 0, _ => rfl
  | k + 1, h => by
    rw [J_ct_s, J_ct_z k (fun c hc => h c (by omega)), h k (by omega)]
    rfl
/-- a set of cells, numbered: how many of them -/
theorem J_ct_im {g : Nat → Nat} {Q : Nat → Bool} {k : Nat} : ∀ (n : Nat) (P : Nat → Bool), (∀ j, j < n → g j < k) → (∀ i j, i < n → j < n → g i = g j → i = j) → (∀ c, P c = true ↔ ∃ j, j < n ∧ c = g j ∧ Q j = true) → J_ct P k = J_ct Q n
  | 0, P, _, _, h => J_ct_z k (fun c _ => by
      cases hc : P c with
      | false => rfl
      | true =>
        obtain ⟨j, hj, -⟩ := (h c).mp hc
        exact absurd hj (Nat.not_lt_zero j))
  | n + 1, P, hk, hi, h => by
    have hlt := hk n (by omega)
    cases hq : Q n with
    | true =>
      have hP' : ∀ c, (if c = g n then false else P c) = true ↔ ∃ j, j < n ∧ c = g j ∧ Q j = true := fun c => by
        by_cases hc : c = g n
        · rw [if_pos hc]
          constructor
          · intro q
            cases q
          · rintro ⟨j, h1, h2, -⟩
            have := hi j n (by omega) (by omega) (h2.symm.trans hc)
            omega
        · rw [if_neg hc, h c]
          constructor
          · rintro ⟨j, h1, h2, h3⟩
            have hj : j ≠ n := fun q => hc (by rw [h2, q])
            exact ⟨j, by omega, h2, h3⟩
          · rintro ⟨j, h1, h2, h3⟩
            exact ⟨j, by omega, h2, h3⟩
      have ih := J_ct_im n (fun c => if c = g n then false else P c) (fun j hj => hk j (by omega)) (fun i j a b => hi i j (by omega) (by omega)) hP'
      have hu := J_ct_u (P := fun c => if c = g n then false else P c) (i := g n) (if_pos rfl) k
      have e : J_ct P k = J_ct (fun c => if c = g n then true else (fun c => if c = g n then false else P c) c) k := J_ct_e k (fun c _ => by
        show P c = if c = g n then true else if c = g n then false else P c
        by_cases hc : c = g n
        · rw [if_pos hc, hc]
          exact (h _).mpr ⟨n, by omega, rfl, hq⟩
        · rw [if_neg hc, if_neg hc])
      rw [e, hu, ih, if_pos hlt, J_ct_s, hq]
      rfl
    | false =>
      have ih := J_ct_im n P (fun j hj => hk j (by omega)) (fun i j a b => hi i j (by omega) (by omega)) (fun c => by
        rw [h c]
        constructor
        · rintro ⟨j, h1, h2, h3⟩
          have hj : j ≠ n := fun q => by
            rw [q, hq] at h3
            cases h3
          exact ⟨j, by omega, h2, h3⟩
        · rintro ⟨j, h1, h2, h3⟩
          exact ⟨j, by omega, h2, h3⟩)
      rw [ih, J_ct_s, hq]
      rfl
