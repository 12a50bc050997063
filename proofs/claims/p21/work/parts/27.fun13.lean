-- the checksum
def B_cf (h : Int64) (g : Nat → Int) : Nat → Int64
  | 0 => h
  | k + 1 => 31 * B_cf h g k + (ja_I (g k)).toInt64
theorem B_cf_0 {h : Int64} {g : Nat → Int} : B_cf h g 0 = h := rfl
theorem B_cf_s {h : Int64} {g : Nat → Int} {k : Nat} : B_cf h g (k + 1) = 31 * B_cf h g k + (ja_I (g k)).toInt64 := rfl
def B_tk (mem : ja_M) (y : Nat) (k : Int) : Int := if 1 ≤ k ∧ k ≤ 3 then (if k = 3 then mem (y + 1 + 14) 2 else if k = 1 then mem (y + 1 + 14) 0 else mem (y + 1 + 14) 1) else -1001
def B_ou (mem : ja_M) (y : Nat) (k : Int) : Int := if 1 ≤ k ∧ k ≤ 256 then (if mem (y + 1 + 9) 4 < k then -1004 else mem (y + 1 + 9 + 2) ((mem (y + 1 + 9) 4 - k) % 256).toNat) else -1001
def B_ki (mem : ja_M) (y : Nat) (k : Int) : Int := if 1 ≤ k ∧ k ≤ 32 then (if mem (y + 1 + 9) 6 < k then -1004 else mem (y + 1 + 9 + 3) ((mem (y + 1 + 9) 6 - k) % 32).toNat) else -1001
def B_ss (mem : ja_M) (y : Nat) (x : Int) : Int := if B_isF x then F_st mem (y + 1 + 1) (y + 1 + 2) x else -1001
abbrev B_m (h : Int64) (z : Int) : Int64 := 31 * h + (ja_I z).toInt64
def B_k1 (mem : ja_M) (y : Nat) : Int64 := B_m (B_m (B_m (B_m (B_m (B_m (B_m (B_m 41 (mem (y + 1) 6)) (if mem (y + 1) 7 = 0 then -1004 else mem (y + 1) 8)) (mem (y + 1 + 9) 4)) (mem (y + 1 + 9) 1 - mem (y + 1 + 9) 2)) (if 999 < mem (y + 1 + 9) 6 then -1004 else mem (y + 1 + 9) 6)) (R_tg mem (y + 1))) (R_lv mem (y + 1) (mem (y + 1 + 9) 6))) (mem (y + 1 + 6) 2)
def B_k2 (mem : ja_M) (y : Nat) : Int64 := B_m (B_m (B_m (B_m (B_m (B_m (B_cf (B_k1 mem y) (fun k => B_tk mem y ((k : Int) + 1)) 3) (mem (y + 1 + 14) 3)) (mem (y + 1 + 14) 4)) (mem (y + 1 + 14) 5)) (mem (y + 1 + 14) 6)) (mem (y + 1 + 14) 8)) (mem (y + 1 + 15) 4)
def B_k3 (mem : ja_M) (y : Nat) : Int64 := B_cf (B_k2 mem y) (fun k => B_ou mem y ((k : Int) + 1)) 64
def B_k4 (mem : ja_M) (y : Nat) : Int64 := B_cf (B_k3 mem y) (fun k => B_ki mem y ((k : Int) + 1)) 16
def B_ck (mem : ja_M) (y : Nat) : Int64 := B_cf (B_k4 mem y) (fun k => B_ss mem y (k : Int)) 100
/-- a slot's new receiver -/
def B_kp (lay : ja_Y) (mem : ja_M) (n y : Nat) (sl : Nat → Option Nat) (k : Int) : ja_P := fun v lay' mem' n' => (¬ (0 ≤ k ∧ k ≤ 1) ∧ some (.int (ja_I (-1001))) = v ∧ lay = lay' ∧ mem = mem' ∧ n = n') ∨ ∃ o m0, (0 ≤ k ∧ k ≤ 1) ∧ some (.int (ja_I (mem (y + 1) 6))) = v ∧ mem' = R_cp m0 o (y + 1) ∧ (∀ q, q < n → m0 q = mem q) ∧ ((sl k.toNat = some o ∧ lay = lay' ∧ n = n' ∧ m0 = mem) ∨ (sl k.toNat = none ∧ o = n ∧ n' = n + 20 ∧ ja_LR lay' n ∧ (∀ q, q < n → q ≠ y + 41 → lay' q = lay q) ∧ lay' (y + 41) = some (.inr (3, 2, va_up sl k.toNat (some n))) ∧ ja_S0 m0 (n + 1) ∧ ∀ q j, n ≤ q → q < n + 20 → q ≠ n + 1 → m0 q j = 0))
theorem ja_LB_c {lay lay' : ja_Y} {y : Nat} {sl sl' : Nat → Option Nat} (h : ∀ q, y ≤ q → q < y + 49 → q ≠ y + 41 → lay' q = lay q) (hs : lay' (y + 41) = some (.inr (3, 2, sl'))) (ho : ∀ i o, i < 2 → sl' i = some o → y + 49 ≤ o ∧ ja_LR lay' o) (hB : ja_LB lay y sl) : ja_LB lay' y sl' := by
  obtain ⟨h0, h1, h2, h3, h4, h5, h6⟩ := hB
  exact ⟨by rw [h y (by omega) (by omega) (by omega)]; exact h0, ja_LR_c (fun q a1 a2 => h q (by omega) (by omega) (by omega)) h1, ja_LR_c (fun q a1 a2 => h q (by omega) (by omega) (by omega)) h2, hs, ja_LX_c (fun q a1 a2 => h q (by omega) (by omega) (by omega)) h4, ja_LA_c (fun q a1 a2 => h q (by omega) (by omega) (by omega)) h5, ho⟩
