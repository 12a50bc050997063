-- THE FRESH STATE
theorem Z_shr (z : Int) : ja_shr (ja_L 0) z &&& 1 = 0 := by
  have e : ja_L 0 = 0 := rfl
  unfold ja_shr
  rw [e, Int64.zero_shiftRight, Int64.zero_and]
theorem Z_andn (x : Int64) : x &&& (x ^^^ (-1)) = 0 := by rw [Int64.xor_neg_one, Int64.and_not_self]
theorem Z_bc : J_bc 0 = 0 := by decide +kernel
theorem Z_and0 (z : Int) : F_and 0 z = 0 := by
  have e : ja_I 0 = 0 := rfl
  unfold F_and
  rw [e, Int32.zero_and]
  rfl
theorem Z_xor0 {z : Int} (h : ja_in z) : (ja_I z ^^^ ja_I 0).toInt = z := by
  have e : ja_I 0 = 0 := rfl
  rw [e, Int32.xor_zero, ja_toInt h]
/-- a class object y and a reference m, just made -/
def L_fr (lay : ja_Y) (mem : ja_M) (n y m : Nat) : Prop := m = y + 49 ∧ n = y + 58 ∧ ja_LB lay y (fun _ => none) ∧ ja_LM lay m ∧ ja_S0 mem (y + 1 + 1) ∧ ja_S0 mem (y + 21 + 1) ∧ (∀ q j, y ≤ q → q < y + 49 → q ≠ y + 1 + 1 → q ≠ y + 21 + 1 → mem q j = 0) ∧ mem (m + 1) = N_v0 ∧ ∀ q j, m ≤ q → q < m + 9 → q ≠ m + 1 → mem q j = 0
/-- a fresh receiver -/
def Z_R (mem : ja_M) (b : Nat) : Prop := ja_S0 mem (b + 1) ∧ ∀ q j, b ≤ q → q < b + 20 → q ≠ b + 1 → mem q j = 0
theorem L_fr.R {lay : ja_Y} {mem : ja_M} {n y m : Nat} (h : L_fr lay mem n y m) : Z_R mem (y + 1) := ⟨h.2.2.2.2.1, fun q j a b c => h.2.2.2.2.2.2.1 q j (by omega) (by omega) (by omega) (by omega)⟩
theorem L_fr.BO {lay : ja_Y} {mem : ja_M} {n y m : Nat} (h : L_fr lay mem n y m) : ja_BO mem y (fun _ => none) 0 := BO_0 h.2.2.2.2.1 h.2.2.2.2.2.1 h.2.2.2.2.2.2.1
theorem N_v0_z {j : Nat} (h : 9 ≤ j) (h10 : j ≠ 10) : N_v0 j = 0 := by
  unfold N_v0
  rw [if_neg h10, if_neg (by omega), if_neg (by omega), if_neg (by omega), if_neg (by omega), if_neg (by omega), if_neg (by omega), if_neg (by omega), if_neg (by omega), if_neg (by omega)]
theorem N_v0_R : N_R N_v0 := by
  intro j hj
  by_cases h : j < 30
  · have key : ∀ j : Fin 30, N_in j.val (N_v0 j.val) := by
      intro j
      match j with
      | ⟨0, _⟩ => exact (by decide : (4 : Int) ≤ 8 ∧ (8 : Int) ≤ 16)
      | ⟨1, _⟩ => exact (by decide : (2 : Int) ≤ 16 ∧ (16 : Int) ≤ 32)
      | ⟨2, _⟩ => exact (by decide : (1 : Int) ≤ 25 ∧ (25 : Int) ≤ 200)
      | ⟨3, _⟩ => exact (by decide : (2 : Int) ≤ 4 ∧ (4 : Int) ≤ 6)
      | ⟨4, _⟩ => exact (by decide : (2 : Int) ≤ 4 ∧ (4 : Int) ≤ 6)
      | ⟨5, _⟩ => exact (by decide : (0 : Int) ≤ 16 ∧ (16 : Int) ≤ 200)
      | ⟨6, _⟩ => exact (by decide : (1 : Int) ≤ 90 ∧ (90 : Int) ≤ 100)
      | ⟨7, _⟩ => exact (by decide : (0 : Int) ≤ 8 ∧ (8 : Int) ≤ 100)
      | ⟨8, _⟩ => exact (by decide : (0 : Int) ≤ 1 ∧ (1 : Int) ≤ 1)
      | ⟨9, _⟩ => exact (by decide : (0 : Int) ≤ 0 ∧ (0 : Int) ≤ 900002)
      | ⟨10, _⟩ => exact (by decide : (-1 : Int) ≤ -1 ∧ (-1 : Int) ≤ 900300)
      | ⟨11, _⟩ => exact (by decide : (0 : Int) ≤ 0 ∧ (0 : Int) ≤ 1000)
      | ⟨12, _⟩ => exact (by decide : (0 : Int) ≤ 0 ∧ (0 : Int) ≤ 900002)
      | ⟨13, _⟩ => exact (by decide : (0 : Int) ≤ 0 ∧ (0 : Int) ≤ 1000)
      | ⟨14, _⟩ => exact (by decide : (0 : Int) ≤ 0 ∧ (0 : Int) ≤ 1000)
      | ⟨15, _⟩ => exact trivial
      | ⟨16, _⟩ => exact trivial
      | ⟨17, _⟩ => exact trivial
      | ⟨18, _⟩ => exact trivial
      | ⟨19, _⟩ => exact trivial
      | ⟨20, _⟩ => exact trivial
      | ⟨21, _⟩ => exact (by decide : (0 : Int) ≤ 0 ∧ (0 : Int) ≤ 1000)
      | ⟨22, _⟩ => exact (by decide : (0 : Int) ≤ 0 ∧ (0 : Int) ≤ 24)
      | ⟨23, _⟩ => exact (by decide : (0 : Int) ≤ 0 ∧ (0 : Int) ≤ 24)
      | ⟨24, _⟩ => exact (by decide : (0 : Int) ≤ 0 ∧ (0 : Int) ≤ 16)
      | ⟨25, _⟩ => exact (by decide : (0 : Int) ≤ 0 ∧ (0 : Int) ≤ 24)
      | ⟨26, _⟩ => exact trivial
      | ⟨27, _⟩ => exact (by decide : (0 : Int) ≤ 0 ∧ (0 : Int) ≤ 3)
      | ⟨28, _⟩ => exact trivial
      | ⟨29, _⟩ => exact trivial
      | ⟨n + 30, hn⟩ => omega
    exact key ⟨j, h⟩
  · rw [N_v0_z (by omega) (by omega)]
    unfold N_in
    rw [if_neg h]
    split
    · omega
    · split
      · omega
      · split
        · omega
        · split
          · omega
          · split
            · omega
            · split
              · omega
              · omega
theorem N_v0_O : N_O N_v0 0 := by
  refine ⟨N_v0_R, ?_, fun j h0 h1 => ?_⟩
  · rw [N_v0_z (j := 9) (by omega) (by omega), N_v0_z (j := 11) (by omega) (by omega), N_v0_z (j := 12) (by omega) (by omega), N_v0_z (j := 13) (by omega) (by omega), N_v0_z (j := 14) (by omega) (by omega), N_v0_z (j := 21) (by omega) (by omega), N_v0_z (j := 22) (by omega) (by omega), N_v0_z (j := 23) (by omega) (by omega), show N_v0 10 = -1 from rfl]
    omega
  · rw [N_v0_z (j := 25) (by omega) (by omega)] at h1
    omega
-- known frames
theorem Z_st {mem : ja_M} {b : Nat} (h : Z_R mem b) (x : Int) : F_st mem (b + 1) (b + 2) x = 0 := by
  unfold F_st
  rw [h.2 (b + 2 + 2) _ (by omega) (by omega) (by omega), h.2 (b + 2 + 1) _ (by omega) (by omega) (by omega), if_pos (Z_shr _), if_pos (Z_shr _)]
theorem Z_kn (x : Int) (h : 0 ≤ x ∧ x ≤ 999) : ¬ N_kn N_v0 x := by
  intro q
  rcases q with q | q
  · omega
  · rw [N_v0_z (by omega) (by omega)] at q
    omega
-- without packets nothing is restored: the class
theorem Z_ln {mem : ja_M} {s : Nat} {r : Int} {x : Int64} : ∀ k, F_ln mem s 0 r x k = x
  | 0 => rfl
  | k + 1 => by
    simp only [F_ln]
    rw [Z_ln k]
    unfold F_wl
    rw [if_pos (Z_and0 _)]
theorem Z_cp {mem : ja_M} {s : Nat} {x : Int64} {p : Int} (h : F_rd mem s p x = x) : ∀ k, F_cp mem s p k x = x
  | 0 => rfl
  | k + 1 => by
    simp only [F_cp]
    rw [if_pos h]
theorem Z_rn {mem : ja_M} {b : Nat} {k : Int} (h : F_rd mem (b + 1) (mem (b + 2 + 3) k.toNat) (F_kn mem (b + 1) (b + 2) k) = F_kn mem (b + 1) (b + 2) k) : R_rn mem b k = 0 := by
  unfold R_rn F_re
  rw [Z_cp h, Z_andn, Z_bc]
theorem Z_rn0 {mem : ja_M} {b : Nat} {k : Int} (h : mem (b + 2 + 3) k.toNat = 0) : R_rn mem b k = 0 := by
  refine Z_rn ?_
  rw [h]
  unfold F_rd
  rw [Z_ln, Z_ln]
theorem Z_an {mem : ja_M} {b : Nat} (h : Z_R mem b) (x : Int) : R_an mem b x = 1 := by
  unfold R_an
  rw [if_pos (Z_st h x), Z_rn0]
  · rfl
  · rw [R_kn, F_ad_o ⟨by omega, by omega⟩, R_lt_o (by omega), R_ad_o ⟨by omega, by omega⟩]
    exact h.2 _ _ (by omega) (by omega) (by omega)
-- the reference
theorem Z_rr {v : Nat → Int} {r k : Int} (hS : N_S v) (hk : N_hB v k) (hp : ∀ j, 1030 ≤ j → j < 2054 → v j = 0) : ∀ j : Nat, j ≤ 6 → N_rr 0 v r k j = (0, v)
  | 0, _ => rfl
  | j + 1, hj => by
    have hpk := N_pk_in (r := r) (i := (j : Int)) hS hk ⟨by omega, by omega⟩
    simp only [N_rr]
    rw [Z_rr hS hk hp j (by omega)]
    rw [if_neg]
    intro q
    rcases q with q | q
    · exact q trivial
    · have q2 : v (N_pk v r k (j : Int)).toNat = 1 := q
      rw [hp _ (by omega) (by omega)] at q2
      omega
theorem Z_rs {v : Nat → Int} {k : Int} (hS : N_S v) (hk : N_hB v k) (hp : ∀ j, 1030 ≤ j → j < 2054 → v j = 0) : N_rs 0 k 40 0 v = (0, v) := by
  have s3 := hS.2.2.2.1
  have s4 := hS.2.2.2.2.1
  have h1 : N_rd 0 v k = (0, v) := by
    unfold N_rd
    rw [Z_rr hS hk hp _ (by omega)]
    dsimp only
    rw [Z_rr hS hk hp _ (by omega)]
    rfl
  simp only [N_rs]
  rw [h1]
  rfl
theorem Z_Nan {x : Int} (hx : 0 ≤ x ∧ x ≤ 999) : N_an N_v0 x = 1 := by
  have hO := N_aw_O N_v0_O (by omega) hx
  have hs := N_aw_ss N_v0_O (by omega) hx
  unfold N_an
  rw [if_neg (Z_kn x hx), Z_rs hO.1.S (hs.hB.mpr (N_blk N_v0_R.S hx))]
  · rfl
  · intro j h0 h1
    have hb := N_be_O N_v0_O (by omega)
    obtain ⟨r0, r1, r2⟩ := N_s0_R (N_a1_R hb.1 hx).1
    unfold N_aw N_se
    rw [ja_rs_n (by omega), ja_rs_n (by omega)]
    have e0 : N_s0 (N_a1 (N_be N_v0) x) j = N_a1 (N_be N_v0) x j := by
      unfold N_s0
      split
      · rw [ja_rs_n (by omega), N_sh_n 15 (by omega)]
      · rfl
    rw [e0, N_a1, ja_rs_n (by omega), ja_rs_n (by omega), N_be_n (by omega), N_v0_z (by omega) (by omega)]
