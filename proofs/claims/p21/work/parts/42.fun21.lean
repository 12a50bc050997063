-- a reference's state at first
def N_v0 : Nat → Int := fun j => if j = 10 then -1 else if j = 8 then 1 else if j = 7 then 8 else if j = 6 then 90 else if j = 5 then 16 else if j = 4 then 4 else if j = 3 then 4 else if j = 2 then 25 else if j = 1 then 16 else if j = 0 then 8 else 0
def N_k1 (v : Nat → Int) : Int64 := B_m (B_m (B_m 41 (v 9)) (if v 10 < 0 then -1004 else v 10)) (v 12)
def N_k2 (v : Nat → Int) : Int64 := B_m (B_m (B_m (N_k1 v) (v 22 - v 23)) (if 999 < v 11 then -1004 else v 11)) (N_tg v)
def N_k3 (v : Nat → Int) : Int64 := B_m (B_m (N_k2 v) (if 999 < v 11 then 0 else N_lv v (v 11))) (v 24)
def N_k4 (v : Nat → Int) : Int64 := B_m (B_m (B_m (N_k3 v) (v 19)) (v 20)) (v 21)
def N_k5 (v : Nat → Int) : Int64 := B_m (B_m (B_m (N_k4 v) (v 15)) (v 16)) (v 17)
def N_k6 (v : Nat → Int) : Int64 := B_m (B_m (B_m (N_k5 v) (v 18)) (v 14)) (v 25)
def N_k7 (v : Nat → Int) : Int64 := B_cf (N_k6 v) (fun k => N_ou v ((k : Int) + 1)) 64
def N_k8 (v : Nat → Int) : Int64 := B_cf (N_k7 v) (fun k => N_ki v ((k : Int) + 1)) 16
def N_ck (v : Nat → Int) : Int64 := B_cf (N_k8 v) (fun k => v (30 + (k : Int)).toNat) 100
theorem N_gcd_in {a b : Int} (h : 1 ≤ b ∧ b ≤ 1000) : 1 ≤ (Nat.gcd a.toNat b.toNat : Nat) ∧ (Nat.gcd a.toNat b.toNat : Nat) ≤ 1000 := by
  have h1 := Nat.gcd_pos_of_pos_right a.toNat (show 0 < b.toNat by omega)
  have h2 := Nat.gcd_le_right a.toNat (show 0 < b.toNat by omega)
  omega
theorem N_emod_c (a b : Nat) : (a : Int) % (b : Int) = ((a % b : Nat) : Int) := (Int.natCast_emod a b).symm
