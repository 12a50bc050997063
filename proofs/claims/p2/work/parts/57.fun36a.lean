-- HOW MANY BITS ARE SET
def J_M (m : Nat) : Nat → Nat
  | 0 => 0
  | k + 1 => 256 * J_M m k + m
theorem J_and8 (m u k : Nat) (hm : m < 256) : u &&& J_M m (k + 1) = 256 * (u / 256 &&& J_M m k) + (u % 256 &&& m) := by
  have h1 : (u &&& (256 * J_M m k + m)) / 2 ^ 8 = u / 2 ^ 8 &&& (256 * J_M m k + m) / 2 ^ 8 := Nat.and_div_two_pow
  have h2 : (u &&& (256 * J_M m k + m)) % 2 ^ 8 = (u % 2 ^ 8) &&& ((256 * J_M m k + m) % 2 ^ 8) := Nat.and_mod_two_pow
  rw [show (2 : Nat) ^ 8 = 256 from rfl] at h1 h2
  rw [show (256 * J_M m k + m) / 256 = J_M m k by omega] at h1
  rw [show (256 * J_M m k + m) % 256 = m by omega] at h2
  show u &&& (256 * J_M m k + m) = _
  generalize u &&& (256 * J_M m k + m) = w at *
  omega
def J_A (k u : Nat) : Nat := u - (u / 2 &&& J_M 85 k)
def J_A1 (d : Nat) : Nat := d - (d / 2 &&& 85)
def J_B (k a : Nat) : Nat := (a &&& J_M 51 k) + (a / 4 &&& J_M 51 k)
def J_B1 (d : Nat) : Nat := (d &&& 51) + (d / 4 &&& 51)
def J_C (k b : Nat) : Nat := (b + b / 16) &&& J_M 15 k
def J_C1 (d : Nat) : Nat := (d + d / 16) &&& 15
def J_p8 (d : Nat) : Nat := J_C1 (J_B1 (J_A1 d))
theorem J_dA : ∀ e : Fin 512, e.val / 2 % 256 &&& 85 = e.val % 256 / 2 &&& 85 := by decide +kernel
theorem J_dB : ∀ e : Fin 1024, e.val / 4 % 256 &&& 51 = e.val % 256 / 4 &&& 51 := by decide +kernel
theorem J_dC : ∀ e : Fin 256, e.val &&& 15 = e.val % 16 := by decide +kernel
theorem J_dP : ∀ d : Fin 256, J_A1 d.val < 256 ∧ J_B1 (J_A1 d.val) % 16 ≤ 4 ∧ J_B1 (J_A1 d.val) ≤ 68 ∧ J_p8 d.val ≤ 8 := by decide +kernel
theorem J_A_s (k u : Nat) : J_A (k + 1) u = 256 * J_A k (u / 256) + J_A1 (u % 256) := by
  have h := J_dA ⟨u % 512, by omega⟩
  simp only at h
  rw [show u % 512 / 2 % 256 = u / 2 % 256 by omega, show u % 512 % 256 = u % 256 by omega] at h
  have e := J_and8 85 (u / 2) k (by omega)
  rw [show u / 2 / 256 = u / 256 / 2 by omega, h] at e
  unfold J_A J_A1
  rw [e]
  have h1 : (u / 256 / 2 &&& J_M 85 k) ≤ u / 256 / 2 := Nat.and_le_left
  have h2 : (u % 256 / 2 &&& 85) ≤ u % 256 / 2 := Nat.and_le_left
  generalize (u / 256 / 2 &&& J_M 85 k) = X at *
  generalize (u % 256 / 2 &&& 85) = Y at *
  omega
theorem J_B_s (k a : Nat) : J_B (k + 1) a = 256 * J_B k (a / 256) + J_B1 (a % 256) := by
  have h := J_dB ⟨a % 1024, by omega⟩
  simp only at h
  rw [show a % 1024 / 4 % 256 = a / 4 % 256 by omega, show a % 1024 % 256 = a % 256 by omega] at h
  have e1 := J_and8 51 (a / 4) k (by omega)
  rw [show a / 4 / 256 = a / 256 / 4 by omega, h] at e1
  have e2 := J_and8 51 a k (by omega)
  unfold J_B J_B1
  rw [e1, e2]
  omega
theorem J_C_s (k b : Nat) (h4 : b / 256 % 16 ≤ 4) (h68 : b % 256 ≤ 68) : J_C (k + 1) b = 256 * J_C k (b / 256) + J_C1 (b % 256) := by
  have e := J_and8 15 (b + b / 16) k (by omega)
  have g1 := J_dC ⟨(b + b / 16) % 256, by omega⟩
  have g2 := J_dC ⟨b % 256 + b % 256 / 16, by omega⟩
  simp only at g1 g2
  rw [g1, show (b + b / 16) / 256 = b / 256 + b / 256 / 16 by omega] at e
  unfold J_C J_C1
  have hb : b / 16 = 16 * (b / 256) + b % 256 / 16 := by omega
  have hw : (b + b / 16) % 16 = (b % 256 + b % 256 / 16) % 16 := by omega
  rw [e, g2, show (b + b / 16) % 256 % 16 = (b + b / 16) % 16 by omega, hw]
def J_P (k u : Nat) : Nat := J_C k (J_B k (J_A k u))
theorem J_P_s (k u : Nat) : J_P (k + 1) u = 256 * J_P k (u / 256) + J_p8 (u % 256) ∧ J_B (k + 1) (J_A (k + 1) u) % 16 ≤ 4 := by
  obtain ⟨d1, d2, d3, -⟩ := J_dP ⟨u % 256, by omega⟩
  simp only at d1 d2 d3
  have ea := J_A_s k u
  have eb := J_B_s k (J_A (k + 1) u)
  rw [show J_A (k + 1) u / 256 = J_A k (u / 256) by omega, show J_A (k + 1) u % 256 = J_A1 (u % 256) by omega] at eb
  have h4 : J_B k (J_A k (u / 256)) % 16 ≤ 4 := by
    cases k with
    | zero =>
      show ((J_A 0 (u / 256) &&& 0) + (J_A 0 (u / 256) / 4 &&& 0)) % 16 ≤ 4
      rw [Nat.and_zero, Nat.and_zero]
      decide
    | succ k => exact (J_P_s k (u / 256)).2
  refine ⟨?_, by omega⟩
  unfold J_P
  rw [J_C_s k _ (by rw [eb]; omega) (by rw [eb]; omega)]
  unfold J_p8
  rw [show J_B (k + 1) (J_A (k + 1) u) / 256 = J_B k (J_A k (u / 256)) by omega, show J_B (k + 1) (J_A (k + 1) u) % 256 = J_B1 (J_A1 (u % 256)) by omega]
/-- counted from the low end -/
def J_pc : Nat → Nat → Nat
  | 0, _ => 0
  | k + 1, n => n % 2 + J_pc k (n / 2)
theorem J_dQ : ∀ d : Fin 256, J_p8 d.val = J_pc 8 d.val := by decide +kernel
theorem J_pc8 (k u : Nat) : J_pc (k + 8) u = J_pc 8 (u % 256) + J_pc k (u / 256) := by
  simp only [J_pc]
  rw [show u / 2 / 2 / 2 / 2 / 2 / 2 / 2 / 2 = u / 256 by omega]
  omega
def J_Q : Nat → Nat → Nat
  | 0, _ => 0
  | k + 1, u => J_p8 (u % 256) + J_Q k (u / 256)
theorem J_Q_pc : ∀ k u : Nat, J_Q k u = J_pc (8 * k) u
  | 0, u => rfl
  | k + 1, u => by
    have h := J_dQ ⟨u % 256, by omega⟩
    simp only at h
    simp only [J_Q]
    rw [show 8 * (k + 1) = 8 * k + 8 by omega, J_pc8, J_Q_pc k (u / 256), h]
