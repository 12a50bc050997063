-- bits
abbrev J_b (x : Int64) (c : Nat) : Bool := x.toBitVec.getLsbD c
theorem J_t1 : true.toNat = 1 := rfl
theorem J_t0 : false.toNat = 0 := rfl
/-- how many of the first k -/
def J_ct (P : Nat → Bool) : Nat → Nat
  | 0 => 0
  | k + 1 => J_ct P k + (P k).toNat
theorem J_ct_s (P : Nat → Bool) (k : Nat) : J_ct P (k + 1) = J_ct P k + (P k).toNat := rfl
theorem J_ct_l (P : Nat → Bool) : ∀ k : Nat, J_ct P (k + 1) = (P 0).toNat + J_ct (fun c => P (c + 1)) k
  | 0 => by
    simp only [J_ct]
    omega
  | k + 1 => by
    rw [J_ct_s P (k + 1), J_ct_l P k, J_ct_s _ k]
    omega
theorem J_pc_ct : ∀ k n : Nat, J_pc k n = J_ct (fun c => n.testBit c) k
  | 0, n => rfl
  | k + 1, n => by
    have e : (fun c => n.testBit (c + 1)) = fun c => (n / 2).testBit c := by
      funext c
      exact Nat.testBit_succ n c
    have e0 : (n.testBit 0).toNat = n % 2 := by
      rw [Nat.testBit_zero]
      rcases Nat.mod_two_eq_zero_or_one n with h | h
      · rw [h]
        rfl
      · rw [h]
        rfl
    rw [J_ct_l, e, e0, ← J_pc_ct k (n / 2)]
    rfl
/-- THE NUMBER OF BITS -/
theorem J_bc_ct (x : Int64) : J_bc x = ((J_ct (J_b x) 64 : Nat) : Int) := by
  rw [J_bc_u, J_pc_ct]
  rfl
theorem J_ct_e {P Q : Nat → Bool} : ∀ k : Nat, (∀ c, c < k → P c = Q c) → J_ct P k = J_ct Q k
  | 0, _ => rfl
  | k + 1, h => by
    rw [J_ct_s, J_ct_s, J_ct_e k (fun c hc => h c (by omega)), h k (by omega)]
theorem J_ct_u {P : Nat → Bool} {i : Nat} (hP : P i = false) : ∀ k : Nat, J_ct (fun c => if c = i then true else P c) k = J_ct P k + if i < k then 1 else 0
  | 0 => rfl
  | k + 1 => by
    rw [J_ct_s, J_ct_s, J_ct_u hP k]
    by_cases h : k = i
    · have e : (if k = i then true else P k) = true := if_pos h
      rw [e, h, hP, if_neg (by omega), if_pos (by omega)]
      rfl
    · have e : (if k = i then true else P k) = P k := if_neg h
      rw [e]
      by_cases h2 : i < k
      · rw [if_pos h2, if_pos (show i < k + 1 by omega)]
        omega
      · rw [if_neg h2, if_neg (show ¬ i < k + 1 by omega)]
        omega
theorem J_ct_z {P : Nat → Bool} : ∀ k : Nat, (∀ c, c < k → P c = false) → J_ct P k = 0
  | 0, _ => rfl
  | k + 1, h => by
    rw [J_ct_s, J_ct_z k (fun c hc => h c (by omega)), h k (by omega)]
    rfl
/-- a set of cells, numbered: how many of them -/
theorem J_ct_im {g : Nat → Nat} {Q : Nat → Bool} {k : Nat} : ∀ (n : Nat) (P : Nat → Bool), (∀ j, j < n → g j < k) → (∀ i j, i < n → j < n → g i = g j → i = j) → (∀ c, P c = true ↔ ∃ j, j < n ∧ c = g j ∧ Q j = true) → J_ct P k = J_ct Q n
  | 0, P, _, _, h => J_ct_z k (fun c _ => by
      cases hc : P c with
      | false => rfl
      | true =>
        obtain ⟨j, hj, -⟩ := (h c).mp hc
        exact absurd hj (Nat.not_lt_zero j))
  | n + 1, P, hk, hi, h => by
    have hlt := hk n (by omega)
    cases hq : Q n with
    | true =>
      have hP' : ∀ c, (if c = g n then false else P c) = true ↔ ∃ j, j < n ∧ c = g j ∧ Q j = true := fun c => by
        by_cases hc : c = g n
        · rw [if_pos hc]
          constructor
          · intro q
            cases q
          · rintro ⟨j, h1, h2, -⟩
            have := hi j n (by omega) (by omega) (h2.symm.trans hc)
            omega
        · rw [if_neg hc, h c]
          constructor
          · rintro ⟨j, h1, h2, h3⟩
            have hj : j ≠ n := fun q => hc (by rw [h2, q])
            exact ⟨j, by omega, h2, h3⟩
          · rintro ⟨j, h1, h2, h3⟩
            exact ⟨j, by omega, h2, h3⟩
      have ih := J_ct_im n (fun c => if c = g n then false else P c) (fun j hj => hk j (by omega)) (fun i j a b => hi i j (by omega) (by omega)) hP'
      have hu := J_ct_u (P := fun c => if c = g n then false else P c) (i := g n) (if_pos rfl) k
      have e : J_ct P k = J_ct (fun c => if c = g n then true else (fun c => if c = g n then false else P c) c) k := J_ct_e k (fun c _ => by
        show P c = if c = g n then true else if c = g n then false else P c
        by_cases hc : c = g n
        · rw [if_pos hc, hc]
          exact (h _).mpr ⟨n, by omega, rfl, hq⟩
        · rw [if_neg hc, if_neg hc])
      rw [e, hu, ih, if_pos hlt, J_ct_s, hq]
      rfl
    | false =>
      have ih := J_ct_im n P (fun j hj => hk j (by omega)) (fun i j a b => hi i j (by omega) (by omega)) (fun c => by
        rw [h c]
        constructor
        · rintro ⟨j, h1, h2, h3⟩
          have hj : j ≠ n := fun q => by
            rw [q, hq] at h3
            cases h3
          exact ⟨j, by omega, h2, h3⟩
        · rintro ⟨j, h1, h2, h3⟩
          exact ⟨j, by omega, h2, h3⟩)
      rw [ih, J_ct_s, hq]
      rfl
