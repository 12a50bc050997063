-- Player
def ja_sp (z : Int) : Prop := -100 ≤ z ∧ z ≤ 100
def P_put (mem : ja_M) (a : Nat) (v : Int) : ja_M := if mem a 1 < 24 then ja_up (ja_up mem (a + 1) (mem a 1).toNat v) a 1 (mem a 1 + 1) else mem
def P_pts (mem : ja_M) (a : Nat) (h : Nat → Int) : Nat → ja_M
  | 0 => mem
  | k + 1 => P_put (P_pts mem a h k) a (h k)
theorem P_put_o {mem : ja_M} {a q : Nat} {v : Int} (h : q ≠ a ∧ q ≠ a + 1) : P_put mem a v q = mem q := by
  unfold P_put
  split
  · funext j
    rw [ja_up_a h.1, ja_up_a h.2]
  · rfl
theorem P_put_j {mem : ja_M} {a j : Nat} {v : Int} (h : j ≠ 1) : P_put mem a v a j = mem a j := by
  unfold P_put
  split
  · rw [ja_up_j h, ja_up_a (by omega)]
  · rfl
theorem P_put_1 {mem : ja_M} {a : Nat} {v : Int} : P_put mem a v a 1 = if mem a 1 < 24 then mem a 1 + 1 else mem a 1 := by
  unfold P_put
  split
  · rw [ja_up_s]
  · rfl
theorem P_put_f {mem : ja_M} {a : Nat} {v : Int} (hv : ja_sp v) (h : ∀ j, ja_sp (mem (a + 1) j)) (j : Nat) : ja_sp (P_put mem a v (a + 1) j) := by
  unfold P_put
  split
  · rw [ja_up_a (by omega)]
    by_cases hj : j = (mem a 1).toNat
    · subst hj
      rw [ja_up_s]
      exact hv
    · rw [ja_up_j hj]
      exact h j
  · exact h j
theorem P_pts_o {mem : ja_M} {a q : Nat} {h : Nat → Int} (hq : q ≠ a ∧ q ≠ a + 1) : ∀ k, P_pts mem a h k q = mem q
  | 0 => rfl
  | k + 1 => (P_put_o hq).trans (P_pts_o hq k)
theorem P_pts_j {mem : ja_M} {a j : Nat} {h : Nat → Int} (hj : j ≠ 1) : ∀ k, P_pts mem a h k a j = mem a j
  | 0 => rfl
  | k + 1 => (P_put_j hj).trans (P_pts_j hj k)
theorem P_pts_1 {mem : ja_M} {a : Nat} {h : Nat → Int} (h0 : 0 ≤ mem a 1 ∧ mem a 1 ≤ 24) : ∀ k : Nat, (P_pts mem a h k a 1 = if mem a 1 + k ≤ 24 then mem a 1 + k else 24)
  | 0 => by
    simp only [P_pts]
    split <;> omega
  | k + 1 => by
    have ih := @P_pts_1 mem a h h0 k
    simp only [P_pts]
    rw [P_put_1, ih]
    split <;> split <;> split <;> omega
theorem P_pts_r {mem : ja_M} {a : Nat} {h : Nat → Int} (h0 : 0 ≤ mem a 1 ∧ mem a 1 ≤ 24) (k : Nat) : 0 ≤ P_pts mem a h k a 1 ∧ P_pts mem a h k a 1 ≤ 24 := by
  rw [P_pts_1 h0 k]
  split <;> omega
theorem P_pts_f {mem : ja_M} {a : Nat} {h : Nat → Int} : ∀ k : Nat, (∀ j, j < k → ja_sp (h j)) → (∀ j, ja_sp (mem (a + 1) j)) → ∀ j, ja_sp (P_pts mem a h k (a + 1) j)
  | 0, _, hf => hf
  | k + 1, hh, hf => P_put_f (hh k (by omega)) (P_pts_f k (fun j hj => hh j (by omega)) hf)
def P_ab (z : Int) : Int := if 0 ≤ z then z else 0 - z
def P_dif (g : Nat → Int) (p : Nat) : Nat → Int
  | 0 => 0
  | i + 1 => P_dif g p i + P_ab (g i - g (i + p))
theorem P_dif_in {g : Nat → Int} (hg : ∀ j, ja_sp (g j)) (p : Nat) : ∀ i : Nat, 0 ≤ P_dif g p i ∧ P_dif g p i ≤ 200 * i
  | 0 => by simp [P_dif]
  | i + 1 => by
    have ih := P_dif_in hg p i
    have h1 := hg i
    have h2 := hg (i + p)
    obtain ⟨a1, a2⟩ := h1
    obtain ⟨b1, b2⟩ := h2
    simp only [P_dif, P_ab]
    split <;> omega
def P_bt (ex d l s b : Int) : Bool := if ex = 0 then decide (d / l < s / b) else decide (d * b < s * l)
def P_lg (g : Nat → Int) (ex : Int) : Nat → Int × Int
  | 0 => (2, P_dif g 2 2)
  | k + 1 => if P_bt ex (P_dif g (k + 3) (k + 3)) ((k : Int) + 3) (P_lg g ex k).2 (P_lg g ex k).1 = true then ((k : Int) + 3, P_dif g (k + 3) (k + 3)) else P_lg g ex k
theorem P_lg_in {g : Nat → Int} {ex : Int} (hg : ∀ j, ja_sp (g j)) : ∀ k : Nat, k ≤ 14 → (2 ≤ (P_lg g ex k).1 ∧ (P_lg g ex k).1 ≤ k + 2) ∧ 0 ≤ (P_lg g ex k).2 ∧ (P_lg g ex k).2 ≤ 3200
  | 0, _ => by
    have := P_dif_in hg 2 2
    simp only [P_lg]
    exact ⟨⟨by omega, by omega⟩, by omega, by omega⟩
  | k + 1, hk => by
    have ih := P_lg_in (ex := ex) hg k (by omega)
    have h := P_dif_in hg (k + 3) (k + 3)
    simp only [P_lg]
    split
    · exact ⟨⟨by omega, by omega⟩, by omega, by omega⟩
    · exact ⟨⟨by omega, by omega⟩, by omega, by omega⟩
def P_fd : Nat → Int → Int
  | 0, x => x
  | k + 1, x => if x = 0 then x else P_fd k ((x * 3).tdiv 4)
theorem P_fd1 {x : Int} (hx : ja_sp x) : ja_sp ((x * 3).tdiv 4) := by
  obtain ⟨h1, h2⟩ := hx
  rcases Int.le_total 0 (x * 3) with h | h
  · rw [Int.tdiv_eq_ediv_of_nonneg h]
    exact ⟨by omega, by omega⟩
  · have e : (x * 3).tdiv 4 = -((-(x * 3)) / 4) := by
      rw [← Int.tdiv_eq_ediv_of_nonneg (by omega : 0 ≤ -(x * 3)), Int.neg_tdiv]
      omega
    rw [e]
    exact ⟨by omega, by omega⟩
theorem P_fd_in : ∀ (k : Nat) (x : Int), ja_sp x → ja_sp (P_fd k x)
  | 0, x, h => h
  | k + 1, x, h => by
    simp only [P_fd]
    split
    · exact h
    · exact P_fd_in k _ (P_fd1 h)
def P_mx (x y p i : Int) : Int := (x * (p - i) + y * i).tdiv p
theorem P_mx_in {x y p i : Int} (hx : ja_sp x) (hy : ja_sp y) (hi : 0 ≤ i ∧ i ≤ p) (hp : 0 < p) : ja_sp (P_mx x y p i) := by
  obtain ⟨a1, a2⟩ := hx
  obtain ⟨b1, b2⟩ := hy
  have u1 := Int.mul_le_mul_of_nonneg_right a2 (by omega : 0 ≤ p - i)
  have u2 := Int.mul_le_mul_of_nonneg_right a1 (by omega : 0 ≤ p - i)
  have v1 := Int.mul_le_mul_of_nonneg_right b2 hi.1
  have v2 := Int.mul_le_mul_of_nonneg_right b1 hi.1
  unfold P_mx
  generalize x * (p - i) = A at *
  generalize y * i = A2 at *
  have z1 : A + A2 ≤ 100 * p ∧ -(A + A2) ≤ 100 * p := ⟨by omega, by omega⟩
  rcases Int.le_total 0 (A + A2) with h | h
  · rw [Int.tdiv_eq_ediv_of_nonneg h]
    have w1 := Int.ediv_le_of_le_mul hp z1.1
    have w2 := Int.ediv_nonneg h (by omega : 0 ≤ p)
    exact ⟨by omega, by omega⟩
  · have e : (A + A2).tdiv p = -((-(A + A2)) / p) := by
      rw [← Int.tdiv_eq_ediv_of_nonneg (by omega : 0 ≤ -(A + A2)), Int.neg_tdiv]
      omega
    have w1 := Int.ediv_le_of_le_mul hp z1.2
    have w2 := Int.ediv_nonneg (by omega : 0 ≤ -(A + A2)) (by omega : 0 ≤ p)
    rw [e]
    exact ⟨by omega, by omega⟩
/-- the player's ranges -/
def ja_PO (mem : ja_M) (a : Nat) : Prop := (0 ≤ mem a 2 ∧ mem a 2 ≤ mem a 1 ∧ mem a 1 ≤ 24) ∧ (0 ≤ mem a 4 ∧ mem a 4 ≤ 1000000) ∧ (0 ≤ mem a 6 ∧ mem a 6 ≤ 1000) ∧ (∀ j, ja_sp (mem (a + 1) j)) ∧ (∀ j, ja_sp (mem (a + 2) j)) ∧ ∀ j, ja_sp (mem (a + 4) j)
def P_beg (mem : ja_M) (a : Nat) (k : Int) : ja_M := ja_up (ja_up (ja_up (ja_up mem (a + 3) (mem a 6 % 32).toNat k) a 6 (mem a 6 + 1)) a 1 0) a 2 0
def P_out (mem : ja_M) (a : Nat) : ja_M := if mem a 2 < mem a 1 then ja_up (ja_up (ja_up mem (a + 2) (mem a 4 % 256).toNat (mem (a + 1) (mem a 2).toNat)) a 4 (mem a 4 + 1)) a 2 (mem a 2 + 1) else mem
def P_ldr (mem : ja_M) (s : Nat) (fr : Int) (f : Nat → Int) : Nat → (Nat → Int)
  | 0 => f
  | k + 1 => ja_rs (P_ldr mem s fr f k) k (ja_wave mem s fr k)
def P_srr (mem : ja_M) (a : Nat) : Nat → (Nat → Int)
  | 0 => mem (a + 4)
  | k + 1 => ja_rs (P_srr mem a k) k (mem (a + 2) ((mem a 4 - (k + 1)) % 256).toNat)
def P_cpr (mem : ja_M) (a : Nat) (n : Int) : ja_M := P_pts (P_pts mem a (fun i => P_mx (mem (a + 4) i) (mem (a + 4) (i + (P_lg (mem (a + 4)) 1 (n / 2 - 2).toNat).1.toNat)) (P_lg (mem (a + 4)) 1 (n / 2 - 2).toNat).1 i) (P_lg (mem (a + 4)) 1 (n / 2 - 2).toNat).1.toNat) a (fun i => mem (a + 4) ((2 * (P_lg (mem (a + 4)) 1 (n / 2 - 2).toNat).1).toNat + i)) (n - 2 * (P_lg (mem (a + 4)) 1 (n / 2 - 2).toNat).1).toNat
theorem P_mxr {x y p i : Int} (hx : ja_sp x) (hy : ja_sp y) (hi : 0 ≤ i ∧ i ≤ p) (hp : p ≤ 1000) : -1000000 ≤ x * (p - i) + y * i ∧ x * (p - i) + y * i ≤ 1000000 := by
  obtain ⟨a1, a2⟩ := hx
  obtain ⟨b1, b2⟩ := hy
  have u1 := Int.mul_le_mul_of_nonneg_right a2 (by omega : 0 ≤ p - i)
  have u2 := Int.mul_le_mul_of_nonneg_right a1 (by omega : 0 ≤ p - i)
  have v1 := Int.mul_le_mul_of_nonneg_right b2 hi.1
  have v2 := Int.mul_le_mul_of_nonneg_right b1 hi.1
  omega
theorem ja_SO_c {mem mem' : ja_M} {s : Nat} (h : mem' s = mem s) (hO : ja_SO mem s) : ja_SO mem' s := by
  unfold ja_SO
  rw [h]
  exact hO
theorem P_lg_a {g : Nat → Int} {ex : Int} {k : Nat} (h : ¬ ex = 0) (h2 : ¬ (P_lg g ex k).2 * ((k : Int) + 3) ≤ P_dif g (k + 3) (k + 3) * (P_lg g ex k).1) : P_lg g ex (k + 1) = ((k : Int) + 3, P_dif g (k + 3) (k + 3)) := by
  have e : P_bt ex (P_dif g (k + 3) (k + 3)) ((k : Int) + 3) (P_lg g ex k).2 (P_lg g ex k).1 = true := by
    unfold P_bt
    rw [if_neg h]
    exact decide_eq_true (Int.not_le.mp h2)
  simp only [P_lg]
  rw [if_pos e]
theorem P_lg_b {g : Nat → Int} {ex : Int} {k : Nat} (h : ¬ ex = 0) (h2 : (P_lg g ex k).2 * ((k : Int) + 3) ≤ P_dif g (k + 3) (k + 3) * (P_lg g ex k).1) : P_lg g ex (k + 1) = P_lg g ex k := by
  have e : P_bt ex (P_dif g (k + 3) (k + 3)) ((k : Int) + 3) (P_lg g ex k).2 (P_lg g ex k).1 = false := by
    unfold P_bt
    rw [if_neg h]
    exact decide_eq_false (Int.not_lt.mpr h2)
  simp only [P_lg]
  rw [if_neg (by rw [e]; decide)]
theorem P_lg_c {g : Nat → Int} {ex : Int} {k : Nat} (h : ex = 0) (h2 : ¬ (P_lg g ex k).2 / (P_lg g ex k).1 ≤ P_dif g (k + 3) (k + 3) / ((k : Int) + 3)) : P_lg g ex (k + 1) = ((k : Int) + 3, P_dif g (k + 3) (k + 3)) := by
  have e : P_bt ex (P_dif g (k + 3) (k + 3)) ((k : Int) + 3) (P_lg g ex k).2 (P_lg g ex k).1 = true := by
    unfold P_bt
    rw [if_pos h]
    exact decide_eq_true (Int.not_le.mp h2)
  simp only [P_lg]
  rw [if_pos e]
theorem P_lg_d {g : Nat → Int} {ex : Int} {k : Nat} (h : ex = 0) (h2 : (P_lg g ex k).2 / (P_lg g ex k).1 ≤ P_dif g (k + 3) (k + 3) / ((k : Int) + 3)) : P_lg g ex (k + 1) = P_lg g ex k := by
  have e : P_bt ex (P_dif g (k + 3) (k + 3)) ((k : Int) + 3) (P_lg g ex k).2 (P_lg g ex k).1 = false := by
    unfold P_bt
    rw [if_pos h]
    exact decide_eq_false (Int.not_lt.mpr h2)
  simp only [P_lg]
  rw [if_neg (by rw [e]; decide)]
def P_str (mem : ja_M) (a : Nat) (n : Int) : ja_M := P_pts (P_pts (P_pts mem a (fun i => mem (a + 4) (0 + i)) (P_lg (mem (a + 4)) 1 (n / 2 - 2).toNat).1.toNat) a (fun i => P_mx (mem (a + 4) (i + (P_lg (mem (a + 4)) 1 (n / 2 - 2).toNat).1.toNat)) (mem (a + 4) i) (P_lg (mem (a + 4)) 1 (n / 2 - 2).toNat).1 i) (P_lg (mem (a + 4)) 1 (n / 2 - 2).toNat).1.toNat) a (fun i => mem (a + 4) ((P_lg (mem (a + 4)) 1 (n / 2 - 2).toNat).1.toNat + i)) (n - (P_lg (mem (a + 4)) 1 (n / 2 - 2).toNat).1).toNat
def P_pst (mem : ja_M) (a : Nat) : Int := if 32 < mem a 4 then 32 else mem a 4
def P_clg (mem : ja_M) (a : Nat) : Int := if P_pst mem a < 4 then 0 else (P_lg (P_srr mem a (P_pst mem a).toNat) 0 (P_pst mem a / 2 - 2).toNat).1
def P_csm (mem : ja_M) (a : Nat) (gap : Int) (i : Nat) : Int := if P_clg mem a = 0 then 0 else P_fd gap.toNat (P_srr mem a (P_pst mem a).toNat (P_clg mem a - 1 - (i : Int) % P_clg mem a).toNat)
def P_con (mem : ja_M) (a : Nat) (n gap : Int) : ja_M := P_pts (ja_rw mem (a + 4) (P_srr mem a (P_pst mem a).toNat)) a (P_csm mem a gap) n.toNat
theorem P_srr_in {mem : ja_M} {a : Nat} (h2 : ∀ j, ja_sp (mem (a + 2) j)) (h4 : ∀ j, ja_sp (mem (a + 4) j)) : ∀ k j, ja_sp (P_srr mem a k j)
  | 0, j => h4 j
  | k + 1, j => by
    simp only [P_srr, ja_rs]
    split
    · exact h2 _
    · exact P_srr_in h2 h4 k j
theorem P_clg_in {mem : ja_M} {a : Nat} (h0 : 0 ≤ mem a 4) (h2 : ∀ j, ja_sp (mem (a + 2) j)) (h4 : ∀ j, ja_sp (mem (a + 4) j)) : 0 ≤ P_clg mem a ∧ P_clg mem a ≤ 16 := by
  unfold P_clg
  split
  · omega
  · have hp : 4 ≤ P_pst mem a ∧ P_pst mem a ≤ 32 := by
      have : P_pst mem a ≤ 32 := by unfold P_pst; split <;> omega
      omega
    have := P_lg_in (ex := 0) (P_srr_in h2 h4 (P_pst mem a).toNat) (P_pst mem a / 2 - 2).toNat (by omega)
    omega
theorem P_csm_in {mem : ja_M} {a : Nat} {gap : Int} (h2 : ∀ j, ja_sp (mem (a + 2) j)) (h4 : ∀ j, ja_sp (mem (a + 4) j)) (i : Nat) : ja_sp (P_csm mem a gap i) := by
  unfold P_csm
  split
  · exact ⟨by omega, by omega⟩
  · exact P_fd_in _ _ (P_srr_in h2 h4 _ _)
def P_cp2 (mem : ja_M) (a o : Nat) : ja_M := ja_up (ja_cp (ja_up (ja_cp (ja_up (ja_up (ja_cp mem (o + 1) (a + 1) 0 0 24) a 1 (mem o 1)) a 2 (mem o 2)) (o + 2) (a + 2) 0 0 256) a 4 (mem o 4)) (o + 3) (a + 3) 0 0 32) a 6 (mem o 6)
