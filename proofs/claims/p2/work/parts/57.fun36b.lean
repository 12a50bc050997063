/-- the last additions -/
theorem J_dv (m s c : Nat) (h : s < m) : (s + m * c) / m = c := by
  rw [Nat.add_mul_div_left _ _ (by omega), Nat.div_eq_of_lt h, Nat.zero_add]
theorem J_s8 {s0 s1 s2 s3 s4 s5 s6 s7 c : Nat} (hc : c = s0 + 256 * (s1 + 256 * (s2 + 256 * (s3 + 256 * (s4 + 256 * (s5 + 256 * (s6 + 256 * s7))))))) (h0 : s0 ≤ 8) : c + c / 256 = (s0 + s1 + 256 * (s1 + s2)) + 65536 * (s2 + s3 + 256 * (s3 + s4 + 256 * (s4 + s5 + 256 * (s5 + s6 + 256 * (s6 + s7 + 256 * s7))))) := by
  have h := J_dv 256 s0 (s1 + 256 * (s2 + 256 * (s3 + 256 * (s4 + 256 * (s5 + 256 * (s6 + 256 * s7)))))) (by omega)
  rw [hc, h]
  clear h hc h0
  omega
theorem J_s16 {s0 s1 s2 s3 s4 s5 s6 s7 d : Nat} (hd : d = (s0 + s1 + 256 * (s1 + s2)) + 65536 * (s2 + s3 + 256 * (s3 + s4 + 256 * (s4 + s5 + 256 * (s5 + s6 + 256 * (s6 + s7 + 256 * s7)))))) (h : s0 + s1 + 256 * (s1 + s2) < 65536) : d + d / 65536 = (s0 + s1 + s2 + s3 + 256 * (s1 + s2 + s3 + s4) + 65536 * (s2 + s3 + s4 + s5) + 16777216 * (s3 + s4 + s5 + s6)) + 4294967296 * (s4 + s5 + s6 + s7 + 256 * (s5 + s6 + s7) + 65536 * (s6 + s7) + 16777216 * s7) := by
  have g := J_dv 65536 (s0 + s1 + 256 * (s1 + s2)) (s2 + s3 + 256 * (s3 + s4 + 256 * (s4 + s5 + 256 * (s5 + s6 + 256 * (s6 + s7 + 256 * s7))))) h
  rw [hd, g]
  clear g hd h
  omega
theorem J_s32 {a b e : Nat} (he : e = a + 4294967296 * b) (h : a < 4294967296) : e + e / 4294967296 = a + 4294967296 * b + b := by
  have g := J_dv 4294967296 a b h
  rw [he, g]
theorem J_sum (u : Nat) : ∀ c d e f : Nat, c = J_P 8 u → d = c + c / 256 → e = d + d / 65536 → f = e + e / 4294967296 → f % 128 = J_Q 8 u := by
  intro c d e f hc hd he hf
  have s (k u : Nat) := (J_P_s k u).1
  have b (u : Nat) : J_p8 (u % 256) ≤ 8 := (J_dP ⟨u % 256, by omega⟩).2.2.2
  have z : ∀ w, J_P 0 w = 0 := fun w => by
    unfold J_P J_C
    exact Nat.and_zero _
  rw [s, s, s, s, s, s, s, s, z] at hc
  simp only [J_Q]
  have b0 := b u
  have b1 := b (u / 256)
  have b2 := b (u / 256 / 256)
  have b3 := b (u / 256 / 256 / 256)
  have b4 := b (u / 256 / 256 / 256 / 256)
  have b5 := b (u / 256 / 256 / 256 / 256 / 256)
  have b6 := b (u / 256 / 256 / 256 / 256 / 256 / 256)
  have b7 := b (u / 256 / 256 / 256 / 256 / 256 / 256 / 256)
  generalize J_p8 (u % 256) = s0 at *
  generalize J_p8 (u / 256 % 256) = s1 at *
  generalize J_p8 (u / 256 / 256 % 256) = s2 at *
  generalize J_p8 (u / 256 / 256 / 256 % 256) = s3 at *
  generalize J_p8 (u / 256 / 256 / 256 / 256 % 256) = s4 at *
  generalize J_p8 (u / 256 / 256 / 256 / 256 / 256 % 256) = s5 at *
  generalize J_p8 (u / 256 / 256 / 256 / 256 / 256 / 256 % 256) = s6 at *
  generalize J_p8 (u / 256 / 256 / 256 / 256 / 256 / 256 / 256 % 256) = s7 at *
  clear s b z
  have hc2 : c = s0 + 256 * (s1 + 256 * (s2 + 256 * (s3 + 256 * (s4 + 256 * (s5 + 256 * (s6 + 256 * s7)))))) := by
    rw [hc]
    clear hc hd he hf b0 b1 b2 b3 b4 b5 b6 b7
    omega
  rw [J_s8 hc2 b0] at hd
  clear hc hc2
  have hl : s0 + s1 + 256 * (s1 + s2) < 65536 := by
    clear hd he hf
    omega
  rw [J_s16 hd hl] at he
  clear hd hl
  have hl2 : s0 + s1 + s2 + s3 + 256 * (s1 + s2 + s3 + s4) + 65536 * (s2 + s3 + s4 + s5) + 16777216 * (s3 + s4 + s5 + s6) < 4294967296 := by
    clear he hf
    omega
  rw [J_s32 he hl2] at hf
  clear he hl2
  have f1 : f = (s0 + s1 + s2 + s3 + s4 + s5 + s6 + s7) + 128 * (2 * (s1 + s2 + s3 + s4 + s5 + s6 + s7) + 512 * (s2 + s3 + s4 + s5 + s6 + s7) + 131072 * (s3 + s4 + s5 + s6 + s7) + 33554432 * (s4 + s5 + s6 + s7) + 8589934592 * (s5 + s6 + s7) + 2199023255552 * (s6 + s7) + 562949953421312 * s7) := by
    rw [hf]
    clear hf b0 b1 b2 b3 b4 b5 b6 b7
    omega
  rw [f1, Nat.add_mul_mod_self_left, Nat.mod_eq_of_lt (by clear f1 hf; omega)]
  clear f1 hf b0 b1 b2 b3 b4 b5 b6 b7
  omega
