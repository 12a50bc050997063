theorem ja_cov_in {mem : ja_M} {s : Nat} {r k i j : Int} (hO : ja_SO mem s) (hp : ja_hasP mem s r k i) (hj : 0 ≤ j ∧ j ≤ 6) : 0 ≤ ja_cov mem s r k i j ∧ ja_cov mem s r k i j ≤ 2000 := by
  obtain ⟨hb, h1, h2⟩ := hp
  have h3 := ja_blk2 hO hb
  obtain ⟨-, -, -, s3, s4, -⟩ := hO
  have hi : i ≤ 6 := by
    by_cases hr : r = 0
    · rw [if_pos hr] at h2
      omega
    · rw [if_neg hr] at h2
      omega
  have m1 := ja_mulb hj.1 hj.2 (by omega : 0 ≤ mem s 3) s3.2
  have m2 := ja_mulb h1 hi (by omega : 0 ≤ mem s 3) s3.2
  unfold ja_cov
  split <;> omega
def B_los (mem : ja_M) (y : Nat) (d : Int) : Int := if mem (y + 1 + 9) 6 = 0 then (if d = 0 then 0 else 1) else (if d = 0 then mem (y + 1 + 14) 2 else mem (y + 1 + 9) 6) / (if 1 < B_cd 64 (mem (y + 1 + 9) 6) (mem (y + 1 + 14) 2) then B_cd 64 (mem (y + 1 + 9) 6) (mem (y + 1 + 14) 2) else 1)
theorem R_cp_6 {mem : ja_M} {b o : Nat} (h : b + 20 ≤ o ∨ o + 20 ≤ b) : R_cp mem b o b 6 = mem o 6 := by
  unfold R_cp
  rw [ja_up_j (by omega), ja_up_j (by omega), ja_up_s, R_c6_o (by omega)]
