-- Frames: bits
def J_bc (x : Int64) : Int :=
  let a := x - ((x.toUInt64 >>> ((ja_I 1).toInt64.toUInt64 &&& Int64.toUInt64 63)).toInt64 &&& 6148914691236517205)
  let b := (a &&& 3689348814741910323) + ((a.toUInt64 >>> ((ja_I 2).toInt64.toUInt64 &&& Int64.toUInt64 63)).toInt64 &&& 3689348814741910323)
  let c := b + (b.toUInt64 >>> ((ja_I 4).toInt64.toUInt64 &&& Int64.toUInt64 63)).toInt64 &&& 1085102592571150095
  let d := c + (c.toUInt64 >>> ((ja_I 8).toInt64.toUInt64 &&& Int64.toUInt64 63)).toInt64
  let e := d + (d.toUInt64 >>> ((ja_I 16).toInt64.toUInt64 &&& Int64.toUInt64 63)).toInt64
  let f := e + (e.toUInt64 >>> ((ja_I 32).toInt64.toUInt64 &&& Int64.toUInt64 63)).toInt64
  (f.toInt32 &&& ja_I 127).toInt
abbrev ja_shl (a : Int64) (z : Int) : Int64 := a <<< ((ja_I z).toInt64 &&& 63)
abbrev ja_shr (a : Int64) (z : Int) : Int64 := a >>> ((ja_I z).toInt64 &&& 63)
def F_pb (row i : Int) : Int := (ja_I 1 <<< (ja_I (if row = 0 then 6 + i else i) &&& 31)).toInt
abbrev F_and (x y : Int) : Int := (ja_I x &&& ja_I y).toInt
abbrev F_or (x y : Int) : Int := (ja_I x ||| ja_I y).toInt
def F_lbc (cols i : Int) : Nat → Int64
  | 0 => 0
  | k + 1 => F_lbc cols i k ||| ja_shl 1 (k * cols + i)
def F_lb (mem : ja_M) (s : Nat) (row i : Int) : Int64 := if row = 0 then F_lbc (mem s 3) i (mem s 4).toNat else ja_shl (ja_shl 1 (mem s 3) - 1) (i * mem s 3)
def F_wl (mem : ja_M) (s : Nat) (x : Int64) (p row i : Int) : Int64 := if F_and p (F_pb row i) = 0 then x else if J_bc (F_lb mem s row i &&& (x ^^^ (-1))) = 1 then x ||| (F_lb mem s row i &&& (x ^^^ (-1))) else x
def F_ln (mem : ja_M) (s : Nat) (p row : Int) (x : Int64) : Nat → Int64
  | 0 => x
  | k + 1 => F_wl mem s (F_ln mem s p row x k) p row k
abbrev F_rd (mem : ja_M) (s : Nat) (p : Int) (x : Int64) : Int64 := F_ln mem s p 0 (F_ln mem s p 1 x (mem s 4).toNat) (mem s 3).toNat
def F_cp (mem : ja_M) (s : Nat) (p : Int) : Nat → Int64 → Int64
  | 0, x => x
  | k + 1, x => if F_rd mem s p x = x then x else F_cp mem s p k (F_rd mem s p x)
def F_bey (mem : ja_M) (s : Nat) (k : Int) : Int64 := if 1000 - k * ja_cells mem s < 64 then ja_shl (-1) (1000 - k * ja_cells mem s) else 0
def F_kn (mem : ja_M) (s f : Nat) (k : Int) : Int64 := ja_L (mem (f + 1) k.toNat) ||| F_bey mem s k
def F_st (mem : ja_M) (s f : Nat) (x : Int) : Int := if ja_shr (ja_L (mem (f + 2) (x / ja_cells mem s).toNat)) (x % ja_cells mem s) &&& 1 = 0 then (if ja_shr (ja_L (mem (f + 1) (x / ja_cells mem s).toNat)) (x % ja_cells mem s) &&& 1 = 0 then 0 else 1) else 2
def F_ad (mem : ja_M) (s f : Nat) (x : Int) : ja_M := ja_up (ja_up mem (f + 2) (x / ja_cells mem s).toNat (ja_L (mem (f + 2) (x / ja_cells mem s).toNat) ||| ja_shl 1 (x % ja_cells mem s)).toInt) (f + 1) (x / ja_cells mem s).toNat (ja_L (mem (f + 1) (x / ja_cells mem s).toNat) ||| ja_shl 1 (x % ja_cells mem s)).toInt
def F_ap (mem : ja_M) (f : Nat) (row k i : Int) : ja_M := ja_up mem (f + 3) k.toNat (F_or (mem (f + 3) k.toNat) (F_pb row i))
def F_re (mem : ja_M) (s f : Nat) (k : Int) : Int64 := F_cp mem s (mem (f + 3) k.toNat) 37 (F_kn mem s f k)
def F_fr (mem : ja_M) (s f : Nat) (x : Int) : Nat → Int
  | 0 => x
  | k + 1 => if F_st mem s f x = 0 then x else F_fr mem s f (x + 1) k
theorem F_fr_le {mem : ja_M} {s f : Nat} : ∀ (k : Nat) (x : Int), x ≤ F_fr mem s f x k ∧ F_fr mem s f x k ≤ x + k
  | 0, x => by simp [F_fr]
  | k + 1, x => by
    have h := @F_fr_le mem s f k (x + 1)
    simp only [F_fr]
    split <;> omega
theorem F_st_in {mem : ja_M} {s f : Nat} {x : Int} : 0 ≤ F_st mem s f x ∧ F_st mem s f x ≤ 2 := by
  unfold F_st
  split
  · split <;> omega
  · omega
theorem ja_blk {mem : ja_M} {s : Nat} {x : Int} (hO : ja_SO mem s) (hx : 0 ≤ x ∧ x ≤ 999) : (0 ≤ x / ja_cells mem s ∧ x / ja_cells mem s < 250) ∧ 0 ≤ x % ja_cells mem s ∧ x % ja_cells mem s < 36 := by
  have h := hO.cells
  refine ⟨⟨Int.ediv_nonneg hx.1 (by omega), ?_⟩, Int.emod_nonneg _ (by omega), ?_⟩
  · rw [Int.ediv_lt_iff_lt_mul (by omega)]
    have := Int.mul_le_mul_of_nonneg_left (by omega : 4 ≤ ja_cells mem s) (by omega : (0 : Int) ≤ 250)
    omega
  · have := Int.emod_lt_of_pos x (by omega : 0 < ja_cells mem s)
    omega
theorem ja_blk2 {mem : ja_M} {s : Nat} {k : Int} (hO : ja_SO mem s) (hk : ja_hasB mem s k) : (0 ≤ k ∧ k < 250) ∧ 0 ≤ k * ja_cells mem s ∧ k * ja_cells mem s ≤ 999 := by
  have h := hO.cells
  obtain ⟨h0, h1⟩ := hk
  have h2 : 999 / ja_cells mem s < 250 := by
    rw [Int.ediv_lt_iff_lt_mul (by omega)]
    have := Int.mul_le_mul_of_nonneg_left (by omega : 4 ≤ ja_cells mem s) (by omega : (0 : Int) ≤ 250)
    omega
  refine ⟨⟨h0, by omega⟩, Int.mul_nonneg h0 (by omega), ?_⟩
  have h3 := Int.mul_le_mul_of_nonneg_right h1 (by omega : 0 ≤ ja_cells mem s)
  have h4 := Int.ediv_mul_le (999 : Int) (by omega : ja_cells mem s ≠ 0)
  omega
theorem J_and127 (x : Int32) : 0 ≤ (x &&& ja_I 127).toInt ∧ (x &&& ja_I 127).toInt ≤ 127 := by
  have h : (x &&& ja_I 127).toInt = ((x.toBitVec &&& 127#32).toNat : Int) := by
    have h1 : (x &&& ja_I 127).toBitVec = x.toBitVec &&& 127#32 := by rw [Int32.toBitVec_and]; rfl
    show (x &&& ja_I 127).toBitVec.toInt = _
    rw [h1, BitVec.toInt_eq_toNat_of_lt]
    rw [BitVec.toNat_and]
    have := @Nat.and_le_right x.toBitVec.toNat (127#32).toNat
    have e : (127#32).toNat = 127 := rfl
    omega
  rw [h, BitVec.toNat_and]
  have := @Nat.and_le_right x.toBitVec.toNat (127#32).toNat
  have e : (127#32).toNat = 127 := rfl
  omega
theorem J_bc_le (x : Int64) : 0 ≤ J_bc x ∧ J_bc x ≤ 127 := J_and127 _
theorem F_and_in (x y : Int) : ja_in (F_and x y) := ja_range _
theorem F_pb_in (x y : Int) : ja_in (F_pb x y) := ja_range _
theorem ja_of' (x : Int32) : x = ja_I x.toInt := (ja_of x).symm
theorem ja_lcmp0 {a b : Int64} : lg_cmp a b = ja_I (if a > b then 1 else if a = b then 0 else -1) := by
  unfold lg_cmp
  split
  · rfl
  · split <;> rfl
theorem ja_lc_in {a b : Int64} : ja_in (if a > b then 1 else if a = b then 0 else -1) := by
  split
  · exact ⟨by omega, by omega⟩
  · split <;> exact ⟨by omega, by omega⟩
theorem ja_lc_0 {a b : Int64} : (if a > b then (1 : Int) else if a = b then 0 else -1) = 0 ↔ a = b := by
  constructor
  · intro h
    by_cases h1 : a > b
    · rw [if_pos h1] at h
      omega
    · rw [if_neg h1] at h
      by_cases h2 : a = b
      · exact h2
      · rw [if_neg h2] at h
        omega
  · intro h
    subst h
    rw [if_neg (by first | exact Int64.lt_irrefl _ | simp), if_pos rfl]
