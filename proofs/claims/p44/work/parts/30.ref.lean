section
-- the reference at m: state m + 1, spare m + 2, kept m + 3, isKept m + 4, text m + 5, sorted m + 6, x m + 7, told m + 8
def ja_LM (lay : ja_Y) (m : Nat) : Prop := lay m = some (.inl (9, [some (.ref (m + 1)), some (.ref (m + 2)), some (.ref (m + 3)), some (.ref (m + 4)), some (.ref (m + 5)), none, some (.ref (m + 6)), some (.ref (m + 7)), some (.ref (m + 8)), none, none])) ∧ lay (m + 1) = some (.inr (0, 2484, fun _ => none)) ∧ lay (m + 2) = some (.inr (0, 2484, fun _ => none)) ∧ lay (m + 3) = some (.inr (0, 4968, fun _ => none)) ∧ lay (m + 4) = some (.inr (2, 2, fun _ => none)) ∧ lay (m + 5) = some (.inr (0, 120, fun _ => none)) ∧ lay (m + 6) = some (.inr (0, 16, fun _ => none)) ∧ lay (m + 7) = some (.inr (0, 16, fun _ => none)) ∧ lay (m + 8) = some (.inr (0, 160, fun _ => none))
theorem ja_LM_1 {lay : ja_Y} {m : Nat} (h : ja_LM lay m) : lay (m + 1) = some (.inr (0, 2484, fun _ => none)) := h.2.1
theorem ja_LM_2 {lay : ja_Y} {m : Nat} (h : ja_LM lay m) : lay (m + 2) = some (.inr (0, 2484, fun _ => none)) := h.2.2.1
theorem ja_LM_3 {lay : ja_Y} {m : Nat} (h : ja_LM lay m) : lay (m + 3) = some (.inr (0, 4968, fun _ => none)) := h.2.2.2.1
theorem ja_LM_4 {lay : ja_Y} {m : Nat} (h : ja_LM lay m) : lay (m + 4) = some (.inr (2, 2, fun _ => none)) := h.2.2.2.2.1
theorem ja_LM_5 {lay : ja_Y} {m : Nat} (h : ja_LM lay m) : lay (m + 5) = some (.inr (0, 120, fun _ => none)) := h.2.2.2.2.2.1
theorem ja_LM_6 {lay : ja_Y} {m : Nat} (h : ja_LM lay m) : lay (m + 6) = some (.inr (0, 16, fun _ => none)) := h.2.2.2.2.2.2.1
theorem ja_LM_7 {lay : ja_Y} {m : Nat} (h : ja_LM lay m) : lay (m + 7) = some (.inr (0, 16, fun _ => none)) := h.2.2.2.2.2.2.2.1
theorem ja_LM_8 {lay : ja_Y} {m : Nat} (h : ja_LM lay m) : lay (m + 8) = some (.inr (0, 160, fun _ => none)) := h.2.2.2.2.2.2.2.2
theorem ja_up_rw {mem : ja_M} {a b j : Nat} {f : Nat → Int} {z : Int} (h : a ≠ b) : ja_up (ja_rw mem b f) a j z = ja_rw (ja_up mem a j z) b f := by
  funext q x
  unfold ja_up ja_rw
  by_cases hq : q = b
  · subst hq
    simp [Ne.symm h]
  · simp [hq]
theorem ja_rw_cm {mem : ja_M} {a b : Nat} {f g : Nat → Int} (h : a ≠ b) : ja_rw (ja_rw mem b f) a g = ja_rw (ja_rw mem a g) b f := by
  funext q
  unfold ja_rw
  by_cases hq : q = b
  · subst hq
    simp [Ne.symm h]
  · simp [hq]
theorem ja_rs_s (f : Nat → Int) (j : Nat) (z : Int) : ja_rs f j z j = z := by simp [ja_rs]
theorem ja_rs_n {f : Nat → Int} {j q : Nat} {z : Int} (h : q ≠ j) : ja_rs f j z q = f q := by simp [ja_rs, h]
theorem ja_b_1 {p : Prop} [Decidable p] (h : ¬ ja_b p = 0) : p := Decidable.byContradiction fun q => h (ja_b_0.mpr q)
theorem ja_b_o {p : Prop} [Decidable p] : ja_b p = 0 ∨ ja_b p = 1 := by
  have := @ja_b_r p _
  omega
theorem ja_b_in {p : Prop} [Decidable p] : ja_in (ja_b p) := by
  have := @ja_b_r p _
  exact ⟨by omega, by omega⟩
/-- rows that may have changed: sorted, x -/
def N_ge (m : Nat) (G G' : ja_M) : Prop := ∀ q, q ≠ m + 6 → q ≠ m + 7 → G' q = G q
theorem N_ge.rf {m : Nat} {G : ja_M} : N_ge m G G := fun _ _ _ => rfl
theorem N_ge.tr {m : Nat} {G G' G'' : ja_M} (h : N_ge m G G') (h2 : N_ge m G' G'') : N_ge m G G'' := fun q a b => (h2 q a b).trans (h q a b)
def N_pg (lay : ja_Y) (m n : Nat) (G : ja_M) (f : Nat → Int) (r : Option Value) : ja_P := fun v lay' mem' n' => r = v ∧ lay = lay' ∧ n = n' ∧ ∃ G', N_ge m G G' ∧ mem' = ja_rw G' (m + 1) f
-- ranges
def N_in (j : Nat) (z : Int) : Prop :=
  if j < 30 then (match j with
    | 0 => 4 ≤ z ∧ z ≤ 16
    | 1 => 2 ≤ z ∧ z ≤ 32
    | 2 => 1 ≤ z ∧ z ≤ 200
    | 3 => 2 ≤ z ∧ z ≤ 6
    | 4 => 2 ≤ z ∧ z ≤ 6
    | 5 => 0 ≤ z ∧ z ≤ 200
    | 6 => 1 ≤ z ∧ z ≤ 100
    | 7 => 0 ≤ z ∧ z ≤ 100
    | 8 => 0 ≤ z ∧ z ≤ 1
    | 9 => 0 ≤ z ∧ z ≤ 900002
    | 10 => -1 ≤ z ∧ z ≤ 900300
    | 11 => 0 ≤ z ∧ z ≤ 1000
    | 12 => 0 ≤ z ∧ z ≤ 900002
    | 13 => 0 ≤ z ∧ z ≤ 1000
    | 14 => 0 ≤ z ∧ z ≤ 1000
    | 21 => 0 ≤ z ∧ z ≤ 1000
    | 22 => 0 ≤ z ∧ z ≤ 24
    | 23 => 0 ≤ z ∧ z ≤ 24
    | 24 => 0 ≤ z ∧ z ≤ 16
    | 25 => 0 ≤ z ∧ z ≤ 24
    | 27 => 0 ≤ z ∧ z ≤ 3
    | _ => True)
  else if j < 1030 then 0 ≤ z ∧ z ≤ 2
  else if j < 2054 then 0 ≤ z ∧ z ≤ 1
  else if j < 2310 then -100 ≤ z ∧ z ≤ 100
  else if j < 2342 then 0 ≤ z ∧ z ≤ 3
  else if j < 2372 then -100 ≤ z ∧ z ≤ 100
  else if j < 2388 then -1000000 ≤ z ∧ z ≤ 1000000
  else 0 ≤ z ∧ z ≤ 9999
def N_R (v : Nat → Int) : Prop := ∀ j, j < 2484 → N_in j (v j)
theorem N_inF {j : Nat} {z : Int} (h0 : 30 ≤ j) (h1 : j < 1030) : N_in j z ↔ (0 ≤ z ∧ z ≤ 2) := by
  unfold N_in
  rw [if_neg (by omega), if_pos h1]
theorem N_inK {j : Nat} {z : Int} (h0 : 1030 ≤ j) (h1 : j < 2054) : N_in j z ↔ (0 ≤ z ∧ z ≤ 1) := by
  unfold N_in
  rw [if_neg (by omega), if_neg (by omega), if_pos h1]
theorem N_inH {j : Nat} {z : Int} (h0 : 2054 ≤ j) (h1 : j < 2310) : N_in j z ↔ (-100 ≤ z ∧ z ≤ 100) := by
  unfold N_in
  rw [if_neg (by omega), if_neg (by omega), if_neg (by omega), if_pos h1]
theorem N_inD {j : Nat} {z : Int} (h0 : 2310 ≤ j) (h1 : j < 2342) : N_in j z ↔ (0 ≤ z ∧ z ≤ 3) := by
  unfold N_in
  rw [if_neg (by omega), if_neg (by omega), if_neg (by omega), if_neg (by omega), if_pos h1]
theorem N_inG {j : Nat} {z : Int} (h0 : 2342 ≤ j) (h1 : j < 2372) : N_in j z ↔ (-100 ≤ z ∧ z ≤ 100) := by
  unfold N_in
  rw [if_neg (by omega), if_neg (by omega), if_neg (by omega), if_neg (by omega), if_neg (by omega), if_pos h1]
theorem N_inW {j : Nat} {z : Int} (h0 : 2372 ≤ j) (h1 : j < 2388) : N_in j z ↔ (-1000000 ≤ z ∧ z ≤ 1000000) := by
  unfold N_in
  rw [if_neg (by omega), if_neg (by omega), if_neg (by omega), if_neg (by omega), if_neg (by omega), if_neg (by omega), if_pos h1]
theorem N_inP {j : Nat} {z : Int} (h0 : 2388 ≤ j) : N_in j z ↔ (0 ≤ z ∧ z ≤ 9999) := by
  unfold N_in
  rw [if_neg (by omega), if_neg (by omega), if_neg (by omega), if_neg (by omega), if_neg (by omega), if_neg (by omega), if_neg (by omega)]
theorem N_R.rs {v : Nat → Int} {i : Nat} {z : Int} (h : N_R v) (hz : N_in i z) : N_R (ja_rs v i z) := by
  intro j hj
  by_cases hq : j = i
  · subst hq
    rw [ja_rs_s]
    exact hz
  · rw [ja_rs_n hq]
    exact h j hj
abbrev N_S (v : Nat → Int) : Prop := (4 ≤ v 0 ∧ v 0 ≤ 16) ∧ (2 ≤ v 1 ∧ v 1 ≤ 32) ∧ (1 ≤ v 2 ∧ v 2 ≤ 200) ∧ (2 ≤ v 3 ∧ v 3 ≤ 6) ∧ (2 ≤ v 4 ∧ v 4 ≤ 6) ∧ (0 ≤ v 5 ∧ v 5 ≤ 200) ∧ (1 ≤ v 6 ∧ v 6 ≤ 100) ∧ (0 ≤ v 7 ∧ v 7 ≤ 100) ∧ (0 ≤ v 8 ∧ v 8 ≤ 1)
theorem N_R.S {v : Nat → Int} (h : N_R v) : N_S v := ⟨h 0 (by omega), h 1 (by omega), h 2 (by omega), h 3 (by omega), h 4 (by omega), h 5 (by omega), h 6 (by omega), h 7 (by omega), h 8 (by omega)⟩
theorem N_R.C {v : Nat → Int} (h : N_R v) : (0 ≤ v 9 ∧ v 9 ≤ 900002) ∧ (-1 ≤ v 10 ∧ v 10 ≤ 900300) ∧ (0 ≤ v 11 ∧ v 11 ≤ 1000) ∧ (0 ≤ v 12 ∧ v 12 ≤ 900002) ∧ (0 ≤ v 13 ∧ v 13 ≤ 1000) ∧ (0 ≤ v 14 ∧ v 14 ≤ 1000) ∧ (0 ≤ v 21 ∧ v 21 ≤ 1000) ∧ (0 ≤ v 22 ∧ v 22 ≤ 24) ∧ (0 ≤ v 23 ∧ v 23 ≤ 24) ∧ (0 ≤ v 24 ∧ v 24 ≤ 16) ∧ (0 ≤ v 25 ∧ v 25 ≤ 24) ∧ (0 ≤ v 27 ∧ v 27 ≤ 3) := ⟨h 9 (by omega), h 10 (by omega), h 11 (by omega), h 12 (by omega), h 13 (by omega), h 14 (by omega), h 21 (by omega), h 22 (by omega), h 23 (by omega), h 24 (by omega), h 25 (by omega), h 27 (by omega)⟩
theorem N_R.F {v : Nat → Int} {j : Nat} (h : N_R v) (h0 : 30 ≤ j) (h1 : j < 1030) : 0 ≤ v j ∧ v j ≤ 2 := (N_inF h0 h1).mp (h j (by omega))
theorem N_R.K {v : Nat → Int} {j : Nat} (h : N_R v) (h0 : 1030 ≤ j) (h1 : j < 2054) : 0 ≤ v j ∧ v j ≤ 1 := (N_inK h0 h1).mp (h j (by omega))
theorem N_R.H {v : Nat → Int} {j : Nat} (h : N_R v) (h0 : 2054 ≤ j) (h1 : j < 2310) : -100 ≤ v j ∧ v j ≤ 100 := (N_inH h0 h1).mp (h j (by omega))
theorem N_R.D {v : Nat → Int} {j : Nat} (h : N_R v) (h0 : 2310 ≤ j) (h1 : j < 2342) : 0 ≤ v j ∧ v j ≤ 3 := (N_inD h0 h1).mp (h j (by omega))
theorem N_R.G {v : Nat → Int} {j : Nat} (h : N_R v) (h0 : 2342 ≤ j) (h1 : j < 2372) : -100 ≤ v j ∧ v j ≤ 100 := (N_inG h0 h1).mp (h j (by omega))
theorem N_R.W {v : Nat → Int} {j : Nat} (h : N_R v) (h0 : 2372 ≤ j) (h1 : j < 2388) : -1000000 ≤ v j ∧ v j ≤ 1000000 := (N_inW h0 h1).mp (h j (by omega))
theorem N_R.P {v : Nat → Int} {j : Nat} (h : N_R v) (h0 : 2388 ≤ j) (h1 : j < 2484) : 0 ≤ v j ∧ v j ≤ 9999 := (N_inP h0).mp (h j h1)
-- values
abbrev N_bg (v : Nat → Int) : Prop := 0 ≤ v 10 ∨ 0 < v 25
def N_ar (v : Nat → Int) : Int := v 3 * v 4
abbrev N_hB (v : Nat → Int) (k : Int) : Prop := 0 ≤ k ∧ k ≤ 999 / N_ar v
abbrev N_hP (v : Nat → Int) (r k i : Int) : Prop := N_hB v k ∧ 0 ≤ i ∧ i ≤ (if r = 0 then v 3 else v 4) - 1
def N_pk (v : Nat → Int) (r k i : Int) : Int := if r = 0 then 1542 + v 3 * k + i else 1030 + v 4 * k + i
def N_cs (v : Nat → Int) (r : Int) : Int := if r = 0 then v 4 else v 3
def N_cv (v : Nat → Int) (r k i j : Int) : Int := N_ar v * k + (if r = 0 then v 3 * j + i else v 3 * i + j)
abbrev N_kn (v : Nat → Int) (x : Int) : Prop := 999 < x ∨ 0 < v (30 + x).toNat
def N_wv (v : Nat → Int) (x j : Int) : Int := v 2 * ((x * v 0 + j) % v 1) % 201 - 100
theorem N_ar_in {v : Nat → Int} (h : N_S v) : 4 ≤ N_ar v ∧ N_ar v ≤ 36 := by
  obtain ⟨-, -, -, h3, h4, -⟩ := h
  have h1 := Int.mul_le_mul h3.1 h4.1 (by omega) (by omega)
  have h2 := Int.mul_le_mul h3.2 h4.2 (by omega) (by omega)
  exact ⟨by unfold N_ar; omega, by unfold N_ar; omega⟩
theorem N_blk {v : Nat → Int} {x : Int} (h : N_S v) (hx : 0 ≤ x ∧ x ≤ 999) : 0 ≤ x / N_ar v ∧ x / N_ar v ≤ 999 / N_ar v := by
  have h1 := N_ar_in h
  exact ⟨Int.ediv_nonneg hx.1 (by omega), Int.ediv_le_ediv (by omega) hx.2⟩
theorem N_bk {v : Nat → Int} {k : Int} (h : N_S v) (hk : N_hB v k) : (0 ≤ k ∧ k ≤ 249) ∧ (0 ≤ N_ar v * k ∧ N_ar v * k ≤ 999) ∧ (0 ≤ v 3 * k ∧ v 3 * k ≤ 499) ∧ (0 ≤ v 4 * k ∧ v 4 * k ≤ 499) := by
  have h1 := N_ar_in h
  obtain ⟨-, -, -, h3, h4, -⟩ := h
  obtain ⟨k0, k1⟩ := hk
  have e1 := Int.mul_le_mul_of_nonneg_left k1 (by omega : 0 ≤ N_ar v)
  have e2 := Int.mul_ediv_self_le (x := 999) (k := N_ar v) (by omega)
  have e3 : N_ar v * k ≤ 999 := by omega
  have e4 := Int.mul_le_mul_of_nonneg_right h1.1 k0
  have a3 := Int.mul_nonneg (by omega : 0 ≤ v 3) k0
  have a4 := Int.mul_nonneg (by omega : 0 ≤ v 4) k0
  have b3 := Int.mul_le_mul_of_nonneg_left h4.1 a3
  have b4 := Int.mul_le_mul_of_nonneg_left h3.1 a4
  have c3 : v 3 * k * v 4 = N_ar v * k := by unfold N_ar; rw [Int.mul_assoc, Int.mul_comm k, ← Int.mul_assoc]
  have c4 : v 4 * k * v 3 = N_ar v * k := by unfold N_ar; rw [Int.mul_assoc, Int.mul_comm k, ← Int.mul_assoc, Int.mul_comm (v 4)]
  have d0 := Int.mul_nonneg (by omega : 0 ≤ N_ar v) k0
  exact ⟨by omega, by omega, by omega, by omega⟩
theorem N_pk_in {v : Nat → Int} {r k i : Int} (h : N_S v) (hk : N_hB v k) (hi : 0 ≤ i ∧ i ≤ 6) : 1030 ≤ N_pk v r k i ∧ N_pk v r k i < 2054 := by
  have := N_bk h hk
  unfold N_pk
  split <;> omega
theorem N_cv_in {v : Nat → Int} {r k i j : Int} (h : N_S v) (hk : N_hB v k) (hi : 0 ≤ i ∧ i ≤ 6) (hj : 0 ≤ j ∧ j ≤ 6) : 0 ≤ N_cv v r k i j ∧ N_cv v r k i j ≤ 1100 := by
  have := N_bk h hk
  obtain ⟨-, -, -, h3, h4, -⟩ := h
  have m1 := ja_mulb (by omega : 0 ≤ v 3) h3.2 hi.1 hi.2
  have m2 := ja_mulb (by omega : 0 ≤ v 3) h3.2 hj.1 hj.2
  unfold N_cv
  split <;> omega
theorem N_wv_in {v : Nat → Int} {x j : Int} : -100 ≤ N_wv v x j ∧ N_wv v x j ≤ 100 := by
  unfold N_wv
  omega
/-- the settings are the same -/
def N_ss (v w : Nat → Int) : Prop := ∀ j, j < 9 → w j = v j
theorem N_ss.rf {v : Nat → Int} : N_ss v v := fun _ _ => rfl
theorem N_ss.tr {u v w : Nat → Int} (h : N_ss u v) (h2 : N_ss v w) : N_ss u w := fun j hj => (h2 j hj).trans (h j hj)
theorem N_ss.rs {v w : Nat → Int} {i : Nat} {z : Int} (h : N_ss v w) (hi : 9 ≤ i) : N_ss v (ja_rs w i z) := fun j hj => by rw [ja_rs_n (by omega)]; exact h j hj
theorem N_ss.ar {v w : Nat → Int} (h : N_ss v w) : N_ar w = N_ar v := by unfold N_ar; rw [h 3 (by omega), h 4 (by omega)]
theorem N_ss.cv {v w : Nat → Int} {r k i j : Int} (h : N_ss v w) : N_cv w r k i j = N_cv v r k i j := by unfold N_cv; rw [h.ar, h 3 (by omega)]
theorem N_ss.pk {v w : Nat → Int} {r k i : Int} (h : N_ss v w) : N_pk w r k i = N_pk v r k i := by unfold N_pk; rw [h 3 (by omega), h 4 (by omega)]
theorem N_ss.cs {v w : Nat → Int} {r : Int} (h : N_ss v w) : N_cs w r = N_cs v r := by unfold N_cs; rw [h 3 (by omega), h 4 (by omega)]
theorem N_ss.hP {v w : Nat → Int} {r k i : Int} (h : N_ss v w) : N_hP w r k i ↔ N_hP v r k i := by simp only [N_hP, N_hB, h.ar, h 3 (by omega), h 4 (by omega)]
theorem N_ss.hB {v w : Nat → Int} {k : Int} (h : N_ss v w) : N_hB w k ↔ N_hB v k := by simp only [N_hB, h.ar]
theorem N_ss.S {v w : Nat → Int} (h : N_ss v w) (hS : N_S v) : N_S w := by
  unfold N_S
  rw [h 0 (by omega), h 1 (by omega), h 2 (by omega), h 3 (by omega), h 4 (by omega), h 5 (by omega), h 6 (by omega), h 7 (by omega), h 8 (by omega)]
  exact hS
-- restoring
def N_mi (v : Nat → Int) (r k i : Int) : Nat → Int
  | 0 => 0
  | j + 1 => N_mi v r k i j + if N_kn v (N_cv v r k i j) then 0 else 1
def N_r1 (v : Nat → Int) (r k i : Int) : Nat → (Nat → Int)
  | 0 => v
  | j + 1 => if N_kn (N_r1 v r k i j) (N_cv v r k i j) then N_r1 v r k i j else ja_rs (N_r1 v r k i j) (30 + N_cv v r k i j).toNat 1
def N_rn (v : Nat → Int) (r k i : Int) : Int := if N_mi v r k i (N_cs v r).toNat = 1 then 1 else 0
def N_rv (v : Nat → Int) (r k i : Int) : Nat → Int := if N_mi v r k i (N_cs v r).toNat = 1 then N_r1 v r k i (N_cs v r).toNat else v
def N_rr (a : Int) (v : Nat → Int) (r k : Int) : Nat → Int × (Nat → Int)
  | 0 => (0, v)
  | j + 1 => if ¬ a = 0 ∨ (N_rr a v r k j).2 (N_pk v r k j).toNat = 1 then ((N_rr a v r k j).1 + N_rn (N_rr a v r k j).2 r k j, N_rv (N_rr a v r k j).2 r k j) else N_rr a v r k j
def N_rd (a : Int) (v : Nat → Int) (k : Int) : Int × (Nat → Int) := ((N_rr a v 1 k (v 4).toNat).1 + (N_rr a (N_rr a v 1 k (v 4).toNat).2 0 k (v 3).toNat).1, (N_rr a (N_rr a v 1 k (v 4).toNat).2 0 k (v 3).toNat).2)
def N_rs (a k : Int) : Nat → Int → (Nat → Int) → Int × (Nat → Int)
  | 0, n, v => (n, v)
  | f + 1, n, v => if (N_rd a v k).1 = 0 then (n, (N_rd a v k).2) else N_rs a k f (n + (N_rd a v k).1) (N_rd a v k).2
theorem N_mi_in {v : Nat → Int} {r k i : Int} : ∀ j : Nat, 0 ≤ N_mi v r k i j ∧ N_mi v r k i j ≤ j
  | 0 => by simp [N_mi]
  | j + 1 => by
    have := @N_mi_in v r k i j
    simp only [N_mi]
    split <;> omega
/-- only frames change, and they only become known -/
def N_fr (v w : Nat → Int) : Prop := (∀ j, (j < 30 ∨ 1030 ≤ j) → w j = v j) ∧ (∀ j, 0 < v j → w j = v j) ∧ (∀ j, 30 ≤ j → j < 1030 → 0 ≤ v j ∧ v j ≤ 2 → 0 ≤ w j ∧ w j ≤ 2)
theorem N_fr.rf {v : Nat → Int} : N_fr v v := ⟨fun _ _ => rfl, fun _ _ => rfl, fun _ _ _ h => h⟩
theorem N_fr.tr {u v w : Nat → Int} (h : N_fr u v) (h2 : N_fr v w) : N_fr u w := ⟨fun j hj => (h2.1 j hj).trans (h.1 j hj), fun j hj => (h2.2.1 j (by rw [h.2.1 j hj]; exact hj)).trans (h.2.1 j hj), fun j a b c => h2.2.2 j a b (h.2.2 j a b c)⟩
theorem N_fr.ss {v w : Nat → Int} (h : N_fr v w) : N_ss v w := fun j hj => h.1 j (by omega)
theorem N_fr.R {v w : Nat → Int} (h : N_fr v w) (hR : N_R v) : N_R w := by
  intro j hj
  by_cases hq : j < 30 ∨ 1030 ≤ j
  · rw [h.1 j hq]
    exact hR j hj
  · exact (N_inF (by omega) (by omega)).mpr (h.2.2 j (by omega) (by omega) (hR.F (by omega) (by omega)))
theorem N_fr.rs {v w : Nat → Int} {i : Nat} {z : Int} (h : N_fr v w) (hi : 30 ≤ i ∧ i < 1030) (hz : 0 ≤ z ∧ z ≤ 2) (hw : w i ≤ 0) : N_fr v (ja_rs w i z) := by
  refine ⟨fun j hj => ?_, fun j hj => ?_, fun j a b c => ?_⟩
  · rw [ja_rs_n (by omega)]
    exact h.1 j hj
  · have e := h.2.1 j hj
    by_cases hq : j = i
    · subst hq
      omega
    · rw [ja_rs_n hq]
      exact e
  · by_cases hq : j = i
    · subst hq
      rw [ja_rs_s]
      exact hz
    · rw [ja_rs_n hq]
      exact h.2.2 j a b c
theorem N_r1_fr {v : Nat → Int} {r k i : Int} (hS : N_S v) (hk : N_hB v k) (hi : 0 ≤ i ∧ i ≤ 6) : ∀ j : Nat, j ≤ 6 → N_fr v (N_r1 v r k i j)
  | 0, _ => N_fr.rf
  | j + 1, hj => by
    have ih := N_r1_fr (r := r) hS hk hi j (by omega)
    have hc := N_cv_in (r := r) (j := (j : Int)) hS hk hi ⟨by omega, by omega⟩
    simp only [N_r1]
    split
    · exact ih
    · rename_i hn
      have h1 : ¬ 999 < N_cv v r k i j := fun q => hn (Or.inl q)
      have h2 : ¬ 0 < N_r1 v r k i j (30 + N_cv v r k i j).toNat := fun q => hn (Or.inr q)
      exact ih.rs ⟨by omega, by omega⟩ ⟨by omega, by omega⟩ (by omega)
theorem N_cs_in {v : Nat → Int} {r : Int} (hS : N_S v) : 2 ≤ N_cs v r ∧ N_cs v r ≤ 6 := by
  obtain ⟨-, -, -, h3, h4, -⟩ := hS
  unfold N_cs
  split <;> omega
theorem N_rv_fr {v : Nat → Int} {r k i : Int} (hS : N_S v) (hk : N_hB v k) (hi : 0 ≤ i ∧ i ≤ 6) : N_fr v (N_rv v r k i) := by
  have := @N_cs_in v r hS
  unfold N_rv
  split
  · exact N_r1_fr hS hk hi _ (by omega)
  · exact N_fr.rf
theorem N_rr_fr {a : Int} {v : Nat → Int} {r k : Int} (hS : N_S v) (hk : N_hB v k) : ∀ j : Nat, j ≤ 6 → N_fr v (N_rr a v r k j).2
  | 0, _ => N_fr.rf
  | j + 1, hj => by
    have ih := N_rr_fr (a := a) (r := r) hS hk j (by omega)
    simp only [N_rr]
    split
    · exact ih.tr (N_rv_fr (ih.ss.S hS) (ih.ss.hB.mpr hk) ⟨by omega, by omega⟩)
    · exact ih
theorem N_rd_fr {a : Int} {v : Nat → Int} {k : Int} (hS : N_S v) (hk : N_hB v k) : N_fr v (N_rd a v k).2 := by
  have s3 := hS.2.2.2.1
  have s4 := hS.2.2.2.2.1
  have h1 := N_rr_fr (a := a) (r := 1) hS hk (v 4).toNat (by omega)
  exact h1.tr (N_rr_fr (h1.ss.S hS) (h1.ss.hB.mpr hk) _ (by omega))
theorem N_rs_fr {a k : Int} : ∀ (f : Nat) (n : Int) (v : Nat → Int), N_S v → N_hB v k → N_fr v (N_rs a k f n v).2
  | 0, n, v, _, _ => N_fr.rf
  | f + 1, n, v, hS, hk => by
    have h1 := N_rd_fr (a := a) hS hk
    simp only [N_rs]
    split
    · exact h1
    · exact h1.tr (N_rs_fr f _ _ (h1.ss.S hS) (h1.ss.hB.mpr hk))
/-- how many frames of a block are unknown -/
def N_un (v : Nat → Int) (b : Int) : Nat → Nat
  | 0 => 0
  | j + 1 => N_un v b j + if N_kn v (b + j) then 0 else 1
theorem N_un_le {v : Nat → Int} {b : Int} : ∀ j, N_un v b j ≤ j
  | 0 => by simp [N_un]
  | j + 1 => by
    have := @N_un_le v b j
    simp only [N_un]
    split <;> omega
theorem N_kn_mono {v w : Nat → Int} {x : Int} (h : N_fr v w) (hk : N_kn v x) : N_kn w x := by
  rcases hk with h1 | h1
  · exact Or.inl h1
  · exact Or.inr (by rw [h.2.1 _ h1]; exact h1)
theorem N_un_mono {v w : Nat → Int} {b : Int} (h : N_fr v w) : ∀ j, N_un w b j ≤ N_un v b j
  | 0 => by simp [N_un]
  | j + 1 => by
    have ih := N_un_mono (b := b) h j
    simp only [N_un]
    by_cases h1 : N_kn v (b + j)
    · rw [if_pos h1, if_pos (N_kn_mono h h1)]
      omega
    · rw [if_neg h1]
      split <;> omega
theorem N_un_lt {v w : Nat → Int} {b : Int} {i : Nat} (h : N_fr v w) (hv : ¬ N_kn v (b + i)) (hw : N_kn w (b + i)) : ∀ j, i < j → N_un w b j + 1 ≤ N_un v b j
  | 0, hj => by omega
  | j + 1, hj => by
    simp only [N_un]
    by_cases hij : i = j
    · subst hij
      rw [if_neg hv, if_pos hw]
      have := N_un_mono (b := b) h i
      omega
    · have ih := N_un_lt h hv hw j (by omega)
      by_cases h1 : N_kn v (b + j)
      · rw [if_pos h1, if_pos (N_kn_mono h h1)]
        omega
      · rw [if_neg h1]
        split <;> omega
theorem N_mi_pos {v : Nat → Int} {r k i : Int} : ∀ j : Nat, 1 ≤ N_mi v r k i j → ∃ q : Nat, q < j ∧ ¬ N_kn v (N_cv v r k i q)
  | 0, h => by simp [N_mi] at h
  | j + 1, h => by
    simp only [N_mi] at h
    by_cases h1 : N_kn v (N_cv v r k i j)
    · rw [if_pos h1] at h
      obtain ⟨q, a, b⟩ := N_mi_pos (v := v) (r := r) (k := k) (i := i) j (by omega)
      exact ⟨q, by omega, b⟩
    · exact ⟨j, by omega, h1⟩
theorem N_r1_kn {v : Nat → Int} {r k i : Int} (hS : N_S v) (hk : N_hB v k) (hi : 0 ≤ i ∧ i ≤ 6) : ∀ j : Nat, j ≤ 6 → ∀ q : Nat, q < j → N_kn (N_r1 v r k i j) (N_cv v r k i q)
  | 0, _, q, hq => by omega
  | j + 1, hj, q, hq => by
    have hf := N_r1_fr (r := r) hS hk hi j (by omega)
    have hc := N_cv_in (r := r) (j := (j : Int)) hS hk hi ⟨by omega, by omega⟩
    simp only [N_r1]
    by_cases hqj : q = j
    · subst hqj
      split
      · assumption
      · exact Or.inr (by rw [ja_rs_s]; omega)
    · have ih := N_r1_kn (r := r) hS hk hi j (by omega) q (by omega)
      split
      · exact ih
      · rename_i hn
        have h1 : ¬ 999 < N_cv v r k i j := fun q => hn (Or.inl q)
        have h2 : ¬ 0 < N_r1 v r k i j (30 + N_cv v r k i j).toNat := fun q => hn (Or.inr q)
        exact N_kn_mono (N_fr.rf.rs ⟨by omega, by omega⟩ ⟨by omega, by omega⟩ (by omega)) ih
/-- a covered frame lies in its block -/
theorem N_cv_bk {v : Nat → Int} {r k i j : Int} (hS : N_S v) (hi : 0 ≤ i ∧ i < (if r = 0 then v 3 else v 4)) (hj : 0 ≤ j ∧ j < N_cs v r) : N_ar v * k ≤ N_cv v r k i j ∧ N_cv v r k i j < N_ar v * k + N_ar v := by
  obtain ⟨-, -, -, h3, h4, -⟩ := hS
  unfold N_cv
  unfold N_cs at hj
  by_cases hr : r = 0
  · rw [if_pos hr] at hi hj ⊢
    have m0 := Int.mul_nonneg (by omega : 0 ≤ v 3) hj.1
    have m1 := Int.mul_le_mul_of_nonneg_left (by omega : j ≤ v 4 - 1) (by omega : 0 ≤ v 3)
    rw [Int.mul_sub, Int.mul_one] at m1
    have e : N_ar v = v 3 * v 4 := rfl
    omega
  · rw [if_neg hr] at hi hj ⊢
    have m0 := Int.mul_nonneg (by omega : 0 ≤ v 3) hi.1
    have m1 := Int.mul_le_mul_of_nonneg_left (by omega : i ≤ v 4 - 1) (by omega : 0 ≤ v 3)
    rw [Int.mul_sub, Int.mul_one] at m1
    have e : N_ar v = v 3 * v 4 := rfl
    omega
abbrev N_U (v : Nat → Int) (k : Int) : Nat := N_un v (N_ar v * k) (N_ar v).toNat
theorem N_rv_un {v : Nat → Int} {r k i : Int} (hS : N_S v) (hk : N_hB v k) (hi : 0 ≤ i ∧ i < (if r = 0 then v 3 else v 4)) : N_rn v r k i + N_un (N_rv v r k i) (N_ar v * k) (N_ar v).toNat ≤ N_un v (N_ar v * k) (N_ar v).toNat := by
  have hc := @N_cs_in v r hS
  have ha := N_ar_in hS
  have h3 := hS.2.2.2.1
  have h4 := hS.2.2.2.2.1
  have hi6 : 0 ≤ i ∧ i ≤ 6 := by
    by_cases hr : r = 0
    · rw [if_pos hr] at hi
      omega
    · rw [if_neg hr] at hi
      omega
  unfold N_rn N_rv
  by_cases h1 : N_mi v r k i (N_cs v r).toNat = 1
  · rw [if_pos h1, if_pos h1]
    obtain ⟨q, a, b⟩ := N_mi_pos _ (by omega : 1 ≤ N_mi v r k i (N_cs v r).toNat)
    have hb := N_cv_bk (k := k) hS hi (j := (q : Int)) ⟨by omega, by omega⟩
    have e : N_cv v r k i q = N_ar v * k + ((N_cv v r k i q - N_ar v * k).toNat : Nat) := by omega
    have h2 := N_r1_kn (r := r) hS hk hi6 (N_cs v r).toNat (by omega) q a
    have hf := N_r1_fr (r := r) hS hk hi6 (N_cs v r).toNat (by omega)
    rw [e] at b h2
    have := N_un_lt hf b h2 (N_ar v).toNat (by omega)
    omega
  · rw [if_neg h1, if_neg h1]
    omega
theorem N_rn_01 {v : Nat → Int} {r k i : Int} : 0 ≤ N_rn v r k i ∧ N_rn v r k i ≤ 1 := by
  unfold N_rn
  split <;> omega
theorem N_rr_un {a : Int} {v : Nat → Int} {r k : Int} (hS : N_S v) (hk : N_hB v k) : ∀ j : Nat, (j : Int) ≤ (if r = 0 then v 3 else v 4) → 0 ≤ (N_rr a v r k j).1 ∧ (N_rr a v r k j).1 + N_un (N_rr a v r k j).2 (N_ar v * k) (N_ar v).toNat ≤ N_un v (N_ar v * k) (N_ar v).toNat
  | 0, _ => by
    simp only [N_rr]
    omega
  | j + 1, hj => by
    have h3 := hS.2.2.2.1
    have h4 := hS.2.2.2.2.1
    have hj6 : j + 1 ≤ 6 := by
      by_cases hr : r = 0
      · rw [if_pos hr] at hj
        omega
      · rw [if_neg hr] at hj
        omega
    have ih := N_rr_un (a := a) (r := r) hS hk j (by omega)
    have hf := N_rr_fr (a := a) (r := r) hS hk j (by omega)
    simp only [N_rr]
    split
    · have h1 := @N_rn_01 (N_rr a v r k j).2 r k j
      have h2 := N_rv_un (r := r) (i := (j : Int)) (hf.ss.S hS) (hf.ss.hB.mpr hk) ⟨by omega, by rw [hf.ss 3 (by omega), hf.ss 4 (by omega)]; omega⟩
      rw [hf.ss.ar] at h2
      dsimp only
      exact ⟨by omega, by omega⟩
    · exact ih
theorem N_rd_un {a : Int} {v : Nat → Int} {k : Int} (hS : N_S v) (hk : N_hB v k) : 0 ≤ (N_rd a v k).1 ∧ (N_rd a v k).1 + N_U (N_rd a v k).2 k ≤ N_U v k := by
  have s3 := hS.2.2.2.1
  have s4 := hS.2.2.2.2.1
  have h1 := N_rr_fr (a := a) (r := 1) hS hk (v 4).toNat (by omega)
  have u1 := N_rr_un (a := a) (r := 1) hS hk (v 4).toNat (by rw [if_neg (by omega)]; omega)
  have u2 := N_rr_un (a := a) (r := 0) (h1.ss.S hS) (h1.ss.hB.mpr hk) (v 3).toNat (by rw [if_pos rfl, h1.ss 3 (by omega)]; omega)
  have h3 := N_rd_fr (a := a) hS hk
  rw [h1.ss.ar] at u2
  unfold N_U
  rw [h3.ss.ar]
  have e1 : (N_rd a v k).1 = (N_rr a v 1 k (v 4).toNat).1 + (N_rr a (N_rr a v 1 k (v 4).toNat).2 0 k (v 3).toNat).1 := rfl
  have e2 : (N_rd a v k).2 = (N_rr a (N_rr a v 1 k (v 4).toNat).2 0 k (v 3).toNat).2 := rfl
  rw [e1, e2]
  exact ⟨by omega, by omega⟩
theorem N_rs_in {a k : Int} : ∀ (f : Nat) (n : Int) (v : Nat → Int), N_S v → N_hB v k → n ≤ (N_rs a k f n v).1 ∧ (N_rs a k f n v).1 ≤ n + N_U v k
  | 0, n, v, _, _ => by
    simp only [N_rs]
    omega
  | f + 1, n, v, hS, hk => by
    have h1 := N_rd_fr (a := a) hS hk
    have h2 := N_rd_un (a := a) hS hk
    simp only [N_rs]
    split
    · show n ≤ n ∧ n ≤ n + (N_U v k : Int)
      omega
    · have ih := N_rs_in (a := a) f (n + (N_rd a v k).1) _ (h1.ss.S hS) (h1.ss.hB.mpr hk)
      omega
end
section
abbrev rm_X9_in : Room := { frames := 0, cells := 0, slots := 0, locals := 0 }
set_option maxRecDepth 100000 in
set_option maxHeartbeats 800000 in
theorem c_X9_in (l : Launch) (D : va_G) (cA : Nat → ClassId) (B : Nat) {lay : ja_Y} {n : Nat} {mem : ja_M} {x lo hi : Int} (hx : ja_in x) (hl : ja_in lo) (hh : ja_in hi) : ja_Mt l D cA B yX9_in cX9_in 3 (some .boolean) rm_X9_in [.int (ja_I x), .int (ja_I lo), .int (ja_I hi)] lay (mem) n (ja_rd lay mem n (some (.int (ja_I (ja_b (lo ≤ x ∧ x ≤ hi)))))) := by
  refine ja_enter [some (.int (ja_I x)), some (.int (ja_I lo)), some (.int (ja_I hi))] (by decide) (Nat.le_of_ble_eq_true rfl) (fun q hq => hq) (fun C F Rt GC hnm => ?_)
  obtain ⟨x1, x2⟩ := hx
  obtain ⟨l1, l2⟩ := hl
  obtain ⟨u1, u2⟩ := hh
  refine r_iload_n F rfl rfl dX9_in_0 rfl ?_
  refine r_iload_n F rfl rfl dX9_in_1 rfl ?_
  refine r_icmp_lt F (tgt := 14) ⟨by omega, by omega⟩ ⟨by omega, by omega⟩ dX9_in_2 rfl (by decide) (fun h_2 => ?_) (fun h_2 => ?_)
  ·
    refine r_iconst F dX9_in_14 rfl ?_
    exact r_zret F Rt (by omega) dX9_in_15 (by decide) ⟨by simp only [ja_b]; first | rw [if_pos (by omega)] | rw [if_neg (by omega)], rfl, rfl, rfl⟩
  ·
    refine r_iload_n F rfl rfl dX9_in_5 rfl ?_
    refine r_iload_n F rfl rfl dX9_in_6 rfl ?_
    refine r_icmp_gt F (tgt := 14) ⟨by omega, by omega⟩ ⟨by omega, by omega⟩ dX9_in_7 rfl (by decide) (fun h_7 => ?_) (fun h_7 => ?_)
    ·
      refine r_iconst F dX9_in_14 rfl ?_
      exact r_zret F Rt (by omega) dX9_in_15 (by decide) ⟨by simp only [ja_b]; first | rw [if_pos (by omega)] | rw [if_neg (by omega)], rfl, rfl, rfl⟩
    ·
      refine r_iconst F dX9_in_10 rfl ?_
      refine r_goto F (tgt := 15) dX9_in_11 (by decide) ?_
      exact r_zret F Rt (by omega) dX9_in_15 (by decide) ⟨by simp only [ja_b]; first | rw [if_pos (by omega)] | rw [if_neg (by omega)], rfl, rfl, rfl⟩
abbrev rm_X9_size : Room := { frames := 0, cells := 0, slots := 0, locals := 0 }
set_option maxRecDepth 100000 in
set_option maxHeartbeats 800000 in
theorem c_X9_size (l : Launch) (D : va_G) (cA : Nat → ClassId) (B : Nat) {lay : ja_Y} {n : Nat} {mem : ja_M} {x : Int} (hx : -1000000 ≤ x ∧ x ≤ 1000000) : ja_Mt l D cA B yX9_size cX9_size 1 (some .int) rm_X9_size [.int (ja_I x)] lay (mem) n (ja_rd lay mem n (some (.int (ja_I (P_ab x))))) := by
  refine ja_enter [some (.int (ja_I x))] (by decide) (Nat.le_of_ble_eq_true rfl) (fun q hq => hq) (fun C F Rt GC hnm => ?_)
  refine r_iload_n F rfl rfl dX9_size_0 rfl ?_
  refine r_if_ge F (tgt := 9) ⟨by omega, by omega⟩ dX9_size_1 rfl (by decide) (fun h_1 => ?_) (fun h_1 => ?_)
  ·
    refine r_iload_n F rfl rfl dX9_size_9 rfl ?_
    exact r_iret F Rt dX9_size_10 (by decide) ⟨by unfold P_ab; first | (rw [if_pos (by omega)]; done) | (rw [if_neg (by omega)]; congr 3; omega), rfl, rfl, rfl⟩
  ·
    refine r_iload_n F rfl rfl dX9_size_4 rfl ?_
    refine r_ineg F dX9_size_5 rfl ?_
    refine r_goto F (tgt := 10) dX9_size_6 (by decide) ?_
    exact r_iret F Rt dX9_size_10 (by decide) ⟨by unfold P_ab; first | (rw [if_pos (by omega)]; done) | (rw [if_neg (by omega)]; congr 3; omega), rfl, rfl, rfl⟩
abbrev rm_X9_isFrame : Room := { frames := 1, cells := 0, slots := 0, locals := 22 }
set_option maxRecDepth 100000 in
set_option maxHeartbeats 800000 in
theorem c_X9_isFrame (l : Launch) (D : va_G) (cA : Nat → ClassId) (B : Nat) {lay : ja_Y} {n : Nat} {mem : ja_M} {x : Int} (hx : ja_in x) : ja_Mt l D cA B yX9_isFrame cX9_isFrame 1 (some .boolean) rm_X9_isFrame [.int (ja_I x)] lay (mem) n (ja_rd lay mem n (some (.int (ja_I (ja_b (0 ≤ x ∧ x ≤ 999)))))) := by
  refine ja_enter [some (.int (ja_I x))] (by decide) (Nat.le_of_ble_eq_true rfl) (fun q hq => hq) (fun C F Rt GC hnm => ?_)
  obtain ⟨x1, x2⟩ := hx
  refine r_iload_n F rfl rfl dX9_isFrame_0 rfl ?_
  refine r_iconst F dX9_isFrame_1 rfl ?_
  refine r_sipush F (by decide) dX9_isFrame_2 rfl ?_
  refine r_callS F GC (c_X9_in _ _ _ _ ⟨by omega, by omega⟩ ⟨by omega, by omega⟩ ⟨by omega, by omega⟩) s_X9_35 rfl (by decide) (by decide) (Nat.le_of_ble_eq_true rfl) rfl dX9_isFrame_5 rfl (fun v lay' mem' n' hp => ?_)
  obtain ⟨q1, q2, q3, q4⟩ := hp
  subst q1; subst q2; subst q3; subst q4
  exact r_zret F Rt ja_b_o dX9_isFrame_8 (by decide) ⟨rfl, rfl, rfl, rfl⟩
abbrev rm_X9_put : Room := { frames := 0, cells := 0, slots := 0, locals := 0 }
set_option maxRecDepth 100000 in
set_option maxHeartbeats 800000 in
theorem c_X9_put (l : Launch) (D : va_G) (cA : Nat → ClassId) (B : Nat) {lay : ja_Y} {n : Nat} {m : Nat} {G : ja_M} {v : Nat → Int} (hM : ja_LM lay m) {a : Nat} {z : Int} (ha : a < 2484) : ja_Mt l D cA B yX9_put cX9_put 4 (some .int) rm_X9_put [.ref m, .int (ja_I (a : Int)), .int (ja_I z)] lay (ja_rw G (m + 1) v) n (ja_rd lay (ja_rw G (m + 1) (ja_rs v a z)) n (some (.int (ja_I (v a))))) := by
  refine ja_enter [some (.ref m), some (.int (ja_I (a : Int))), some (.int (ja_I z)), none] (by decide) (Nat.le_of_ble_eq_true rfl) (fun q hq => hq) (fun C F Rt GC hnm => ?_)
  refine r_aload_n F rfl rfl dX9_put_0 rfl ?_
  refine r_getR F f_X9_7 (hM.1) rfl dX9_put_1 rfl ?_
  refine r_iload_n F rfl rfl dX9_put_4 rfl ?_
  refine r_iald F (ja_LM_1 hM) (by omega) (by omega) (by decide) dX9_put_5 rfl ?_
  refine r_eqz (z := (v (Int.toNat (a : Int)))) (by rw [ja_rw_s]) ?_
  refine r_ist3 F (by decide) rfl dX9_put_6 rfl ?_
  refine r_aload_n F rfl rfl dX9_put_7 rfl ?_
  refine r_getR F f_X9_7 (hM.1) rfl dX9_put_8 rfl ?_
  refine r_iload_n F rfl rfl dX9_put_11 rfl ?_
  refine r_iload_n F rfl rfl dX9_put_12 rfl ?_
  refine r_iast F (ja_LM_1 hM) (by omega) (by omega) (by decide) dX9_put_13 rfl ?_
  refine r_mem (mem' := ja_rw G (m + 1) (ja_rs v (Int.toNat (a : Int)) z)) (ja_rw_up _ _ _ _ _) ?_
  refine r_iload_n F rfl rfl dX9_put_14 rfl ?_
  exact r_iret F Rt dX9_put_15 (by decide) ⟨rfl, rfl, by rw [ja_nat], rfl⟩
abbrev rm_X9_isBegun : Room := { frames := 0, cells := 0, slots := 0, locals := 0 }
set_option maxRecDepth 100000 in
set_option maxHeartbeats 800000 in
theorem c_X9_isBegun (l : Launch) (D : va_G) (cA : Nat → ClassId) (B : Nat) {lay : ja_Y} {n : Nat} {m : Nat} {G : ja_M} {v : Nat → Int} (hM : ja_LM lay m) (hR : N_R v) : ja_Mt l D cA B yX9_isBegun cX9_isBegun 1 (some .boolean) rm_X9_isBegun [.ref m] lay (ja_rw G (m + 1) v) n (ja_rd lay (ja_rw G (m + 1) v) n (some (.int (ja_I (ja_b (N_bg v)))))) := by
  refine ja_enter [some (.ref m)] (by decide) (Nat.le_of_ble_eq_true rfl) (fun q hq => hq) (fun C F Rt GC hnm => ?_)
  have hC := hR.C
  refine r_aload_n F rfl rfl dX9_isBegun_0 rfl ?_
  refine r_getR F f_X9_7 (hM.1) rfl dX9_isBegun_1 rfl ?_
  refine r_bipush F (by decide) dX9_isBegun_4 rfl ?_
  refine r_iald F (ja_LM_1 hM) (by omega) (by omega) (by decide) dX9_isBegun_6 rfl ?_
  refine r_eqz (z := (v 10)) (by rw [ja_rw_s, show Int.toNat 10 = 10 from rfl]) ?_
  refine r_if_ge F (tgt := 20) ⟨by omega, by omega⟩ dX9_isBegun_7 rfl (by decide) (fun h_7 => ?_) (fun h_7 => ?_)
  ·
    refine r_iconst F dX9_isBegun_20 rfl ?_
    refine r_goto F (tgt := 25) dX9_isBegun_21 (by decide) ?_
    exact r_zret F Rt (by omega) dX9_isBegun_25 (by decide) ⟨by simp only [ja_b, N_bg]; first | rw [if_pos (by omega)] | rw [if_neg (by omega)], rfl, rfl, rfl⟩
  ·
    refine r_aload_n F rfl rfl dX9_isBegun_10 rfl ?_
    refine r_getR F f_X9_7 (hM.1) rfl dX9_isBegun_11 rfl ?_
    refine r_bipush F (by decide) dX9_isBegun_14 rfl ?_
    refine r_iald F (ja_LM_1 hM) (by omega) (by omega) (by decide) dX9_isBegun_16 rfl ?_
    refine r_eqz (z := (v 25)) (by rw [ja_rw_s, show Int.toNat 25 = 25 from rfl]) ?_
    refine r_if_le F (tgt := 24) ⟨by omega, by omega⟩ dX9_isBegun_17 rfl (by decide) (fun h_17 => ?_) (fun h_17 => ?_)
    ·
      refine r_iconst F dX9_isBegun_24 rfl ?_
      exact r_zret F Rt (by omega) dX9_isBegun_25 (by decide) ⟨by simp only [ja_b, N_bg]; first | rw [if_pos (by omega)] | rw [if_neg (by omega)], rfl, rfl, rfl⟩
    ·
      refine r_iconst F dX9_isBegun_20 rfl ?_
      refine r_goto F (tgt := 25) dX9_isBegun_21 (by decide) ?_
      exact r_zret F Rt (by omega) dX9_isBegun_25 (by decide) ⟨by simp only [ja_b, N_bg]; first | rw [if_pos (by omega)] | rw [if_neg (by omega)], rfl, rfl, rfl⟩
abbrev rm_X9_area : Room := { frames := 0, cells := 0, slots := 0, locals := 0 }
set_option maxRecDepth 100000 in
set_option maxHeartbeats 800000 in
theorem c_X9_area (l : Launch) (D : va_G) (cA : Nat → ClassId) (B : Nat) {lay : ja_Y} {n : Nat} {m : Nat} {G : ja_M} {v : Nat → Int} (hM : ja_LM lay m) (hS : N_S v) : ja_Mt l D cA B yX9_area cX9_area 1 (some .int) rm_X9_area [.ref m] lay (ja_rw G (m + 1) v) n (ja_rd lay (ja_rw G (m + 1) v) n (some (.int (ja_I (N_ar v))))) := by
  refine ja_enter [some (.ref m)] (by decide) (Nat.le_of_ble_eq_true rfl) (fun q hq => hq) (fun C F Rt GC hnm => ?_)
  refine r_aload_n F rfl rfl dX9_area_0 rfl ?_
  refine r_getR F f_X9_7 (hM.1) rfl dX9_area_1 rfl ?_
  refine r_iconst F dX9_area_4 rfl ?_
  refine r_iald F (ja_LM_1 hM) (by omega) (by omega) (by decide) dX9_area_5 rfl ?_
  refine r_eqz (z := (v 3)) (by rw [ja_rw_s, show Int.toNat 3 = 3 from rfl]) ?_
  refine r_aload_n F rfl rfl dX9_area_6 rfl ?_
  refine r_getR F f_X9_7 (hM.1) rfl dX9_area_7 rfl ?_
  refine r_iconst F dX9_area_10 rfl ?_
  refine r_iald F (ja_LM_1 hM) (by omega) (by omega) (by decide) dX9_area_11 rfl ?_
  refine r_eqz (z := (v 4)) (by rw [ja_rw_s, show Int.toNat 4 = 4 from rfl]) ?_
  refine r_imul F dX9_area_12 rfl ?_
  exact r_iret F Rt dX9_area_13 (by decide) ⟨rfl, rfl, rfl, rfl⟩
abbrev rm_X9_isPacket : Room := { frames := 1, cells := 0, slots := 0, locals := 22 }
set_option maxRecDepth 100000 in
set_option maxHeartbeats 800000 in
theorem c_X9_isPacket (l : Launch) (D : va_G) (cA : Nat → ClassId) (B : Nat) {lay : ja_Y} {n : Nat} {m : Nat} {G : ja_M} {v : Nat → Int} (hM : ja_LM lay m) {r k i : Int} (hS : N_S v) (hr : 0 ≤ r ∧ r ≤ 1) (hk : ja_in k) (hi : ja_in i) : ja_Mt l D cA B yX9_isPacket cX9_isPacket 4 (some .boolean) rm_X9_isPacket [.ref m, .int (ja_I r), .int (ja_I k), .int (ja_I i)] lay (ja_rw G (m + 1) v) n (ja_rd lay (ja_rw G (m + 1) v) n (some (.int (ja_I (ja_b (N_hP v r k i)))))) := by
  refine ja_enter [some (.ref m), some (.int (ja_I r)), some (.int (ja_I k)), some (.int (ja_I i))] (by decide) (Nat.le_of_ble_eq_true rfl) (fun q hq => hq) (fun C F Rt GC hnm => ?_)
  have ha := N_ar_in hS
  obtain ⟨k1, k2⟩ := hk
  obtain ⟨i1, i2⟩ := hi
  have hd0 := Int.ediv_nonneg (show (0 : Int) ≤ 999 by omega) (show 0 ≤ N_ar v by omega)
  have hd1 := Int.ediv_le_self (N_ar v) (show (0 : Int) ≤ 999 by omega)
  obtain ⟨-, -, -, h3, h4, -⟩ := id hS
  refine r_iload_n F rfl rfl dX9_isPacket_0 rfl ?_
  refine r_iconst F dX9_isPacket_1 rfl ?_
  refine r_sipush F (by decide) dX9_isPacket_2 rfl ?_
  refine r_aload_n F rfl rfl dX9_isPacket_5 rfl ?_
  refine r_callV F GC (c_X9_area _ _ _ _ hM hS) v_X9_47 rfl (hM.1) rfl (by decide) (by decide) (Nat.le_of_ble_eq_true rfl) rfl dX9_isPacket_6 rfl (fun v lay' mem' n' hp => ?_)
  obtain ⟨q1, q2, q3, q4⟩ := hp
  subst q1; subst q2; subst q3; subst q4
  refine r_idivP F ⟨by omega, by omega⟩ ⟨by omega, by omega⟩ (by omega) (by omega) dX9_isPacket_9 rfl ?_
  refine r_callS F GC (c_X9_in _ _ _ _ ⟨by omega, by omega⟩ ⟨by omega, by omega⟩ ⟨by omega, by omega⟩) s_X9_35 rfl (by decide) (by decide) (Nat.le_of_ble_eq_true rfl) rfl dX9_isPacket_10 rfl (fun v lay' mem' n' hp => ?_)
  obtain ⟨q1, q2, q3, q4⟩ := hp
  subst q1; subst q2; subst q3; subst q4
  refine r_if_eq F (tgt := 49) ja_b_in dX9_isPacket_13 rfl (by decide) (fun h_13 => ?_) (fun h_13 => ?_)
  ·
    have b_13 : ¬ (0 ≤ k ∧ k ≤ (999 / (N_ar v))) := ja_b_0.mp h_13
    refine r_iconst F dX9_isPacket_49 rfl ?_
    exact r_zret F Rt (by omega) dX9_isPacket_50 (by decide) ⟨by simp only [ja_b, N_hP, N_hB]; first | rw [if_pos ⟨⟨by omega, by omega⟩, by omega, by first | rw [if_pos (by omega)]; omega | rw [if_neg (by omega)]; omega⟩] | rw [if_neg (fun q => by have := q.1.1; have := q.1.2; have q2 := q.2.2; first | (rw [if_pos (by omega)] at q2; omega) | (rw [if_neg (by omega)] at q2; omega) | omega)], rfl, rfl, rfl⟩
  ·
    have b_13 : (0 ≤ k ∧ k ≤ (999 / (N_ar v))) := ja_b_1 h_13
    refine r_iload_n F rfl rfl dX9_isPacket_16 rfl ?_
    refine r_iconst F dX9_isPacket_17 rfl ?_
    refine r_iload_n F rfl rfl dX9_isPacket_18 rfl ?_
    refine r_if_eq F (tgt := 31) ⟨by omega, by omega⟩ dX9_isPacket_19 rfl (by decide) (fun h_19 => ?_) (fun h_19 => ?_)
    ·
      refine r_aload_n F rfl rfl dX9_isPacket_31 rfl ?_
      refine r_getR F f_X9_7 (hM.1) rfl dX9_isPacket_32 rfl ?_
      refine r_iconst F dX9_isPacket_35 rfl ?_
      refine r_iald F (ja_LM_1 hM) (by omega) (by omega) (by decide) dX9_isPacket_36 rfl ?_
      refine r_eqz (z := (v 3)) (by rw [ja_rw_s, show Int.toNat 3 = 3 from rfl]) ?_
      refine r_iconst F dX9_isPacket_37 rfl ?_
      refine r_isub F dX9_isPacket_38 rfl ?_
      refine r_callS F GC (c_X9_in _ _ _ _ ⟨by omega, by omega⟩ ⟨by omega, by omega⟩ ⟨by omega, by omega⟩) s_X9_35 rfl (by decide) (by decide) (Nat.le_of_ble_eq_true rfl) rfl dX9_isPacket_39 rfl (fun v lay' mem' n' hp => ?_)
      obtain ⟨q1, q2, q3, q4⟩ := hp
      subst q1; subst q2; subst q3; subst q4
      refine r_if_eq F (tgt := 49) ja_b_in dX9_isPacket_42 rfl (by decide) (fun h_42 => ?_) (fun h_42 => ?_)
      ·
        have b_42 : ¬ (0 ≤ i ∧ i ≤ ((v 3) - 1)) := ja_b_0.mp h_42
        refine r_iconst F dX9_isPacket_49 rfl ?_
        exact r_zret F Rt (by omega) dX9_isPacket_50 (by decide) ⟨by simp only [ja_b, N_hP, N_hB]; first | rw [if_pos ⟨⟨by omega, by omega⟩, by omega, by first | rw [if_pos (by omega)]; omega | rw [if_neg (by omega)]; omega⟩] | rw [if_neg (fun q => by have := q.1.1; have := q.1.2; have q2 := q.2.2; first | (rw [if_pos (by omega)] at q2; omega) | (rw [if_neg (by omega)] at q2; omega) | omega)], rfl, rfl, rfl⟩
      ·
        have b_42 : (0 ≤ i ∧ i ≤ ((v 3) - 1)) := ja_b_1 h_42
        refine r_iconst F dX9_isPacket_45 rfl ?_
        refine r_goto F (tgt := 50) dX9_isPacket_46 (by decide) ?_
        exact r_zret F Rt (by omega) dX9_isPacket_50 (by decide) ⟨by simp only [ja_b, N_hP, N_hB]; first | rw [if_pos ⟨⟨by omega, by omega⟩, by omega, by first | rw [if_pos (by omega)]; omega | rw [if_neg (by omega)]; omega⟩] | rw [if_neg (fun q => by have := q.1.1; have := q.1.2; have q2 := q.2.2; first | (rw [if_pos (by omega)] at q2; omega) | (rw [if_neg (by omega)] at q2; omega) | omega)], rfl, rfl, rfl⟩
    ·
      refine r_aload_n F rfl rfl dX9_isPacket_22 rfl ?_
      refine r_getR F f_X9_7 (hM.1) rfl dX9_isPacket_23 rfl ?_
      refine r_iconst F dX9_isPacket_26 rfl ?_
      refine r_iald F (ja_LM_1 hM) (by omega) (by omega) (by decide) dX9_isPacket_27 rfl ?_
      refine r_eqz (z := (v 4)) (by rw [ja_rw_s, show Int.toNat 4 = 4 from rfl]) ?_
      refine r_goto F (tgt := 37) dX9_isPacket_28 (by decide) ?_
      refine r_iconst F dX9_isPacket_37 rfl ?_
      refine r_isub F dX9_isPacket_38 rfl ?_
      refine r_callS F GC (c_X9_in _ _ _ _ ⟨by omega, by omega⟩ ⟨by omega, by omega⟩ ⟨by omega, by omega⟩) s_X9_35 rfl (by decide) (by decide) (Nat.le_of_ble_eq_true rfl) rfl dX9_isPacket_39 rfl (fun v lay' mem' n' hp => ?_)
      obtain ⟨q1, q2, q3, q4⟩ := hp
      subst q1; subst q2; subst q3; subst q4
      refine r_if_eq F (tgt := 49) ja_b_in dX9_isPacket_42 rfl (by decide) (fun h_42 => ?_) (fun h_42 => ?_)
      ·
        have b_42 : ¬ (0 ≤ i ∧ i ≤ ((v 4) - 1)) := ja_b_0.mp h_42
        refine r_iconst F dX9_isPacket_49 rfl ?_
        exact r_zret F Rt (by omega) dX9_isPacket_50 (by decide) ⟨by simp only [ja_b, N_hP, N_hB]; first | rw [if_pos ⟨⟨by omega, by omega⟩, by omega, by first | rw [if_pos (by omega)]; omega | rw [if_neg (by omega)]; omega⟩] | rw [if_neg (fun q => by have := q.1.1; have := q.1.2; have q2 := q.2.2; first | (rw [if_pos (by omega)] at q2; omega) | (rw [if_neg (by omega)] at q2; omega) | omega)], rfl, rfl, rfl⟩
      ·
        have b_42 : (0 ≤ i ∧ i ≤ ((v 4) - 1)) := ja_b_1 h_42
        refine r_iconst F dX9_isPacket_45 rfl ?_
        refine r_goto F (tgt := 50) dX9_isPacket_46 (by decide) ?_
        exact r_zret F Rt (by omega) dX9_isPacket_50 (by decide) ⟨by simp only [ja_b, N_hP, N_hB]; first | rw [if_pos ⟨⟨by omega, by omega⟩, by omega, by first | rw [if_pos (by omega)]; omega | rw [if_neg (by omega)]; omega⟩] | rw [if_neg (fun q => by have := q.1.1; have := q.1.2; have q2 := q.2.2; first | (rw [if_pos (by omega)] at q2; omega) | (rw [if_neg (by omega)] at q2; omega) | omega)], rfl, rfl, rfl⟩
abbrev rm_X9_isKnown : Room := { frames := 0, cells := 0, slots := 0, locals := 0 }
set_option maxRecDepth 100000 in
set_option maxHeartbeats 800000 in
theorem c_X9_isKnown (l : Launch) (D : va_G) (cA : Nat → ClassId) (B : Nat) {lay : ja_Y} {n : Nat} {m : Nat} {G : ja_M} {v : Nat → Int} (hM : ja_LM lay m) {x : Int} (hR : N_R v) (hx : 0 ≤ x ∧ x ≤ 2000) : ja_Mt l D cA B yX9_isKnown cX9_isKnown 2 (some .boolean) rm_X9_isKnown [.ref m, .int (ja_I x)] lay (ja_rw G (m + 1) v) n (ja_rd lay (ja_rw G (m + 1) v) n (some (.int (ja_I (ja_b (N_kn v x)))))) := by
  refine ja_enter [some (.ref m), some (.int (ja_I x))] (by decide) (Nat.le_of_ble_eq_true rfl) (fun q hq => hq) (fun C F Rt GC hnm => ?_)
  refine r_iload_n F rfl rfl dX9_isKnown_0 rfl ?_
  refine r_sipush F (by decide) dX9_isKnown_1 rfl ?_
  refine r_icmp_gt F (tgt := 19) ⟨by omega, by omega⟩ ⟨by omega, by omega⟩ dX9_isKnown_4 rfl (by decide) (fun h_4 => ?_) (fun h_4 => ?_)
  ·
    refine r_iconst F dX9_isKnown_19 rfl ?_
    refine r_goto F (tgt := 24) dX9_isKnown_20 (by decide) ?_
    exact r_zret F Rt (by omega) dX9_isKnown_24 (by decide) ⟨by simp only [ja_b, N_kn]; first | rw [if_pos (by omega)] | rw [if_neg (by omega)], rfl, rfl, rfl⟩
  ·
    refine r_aload_n F rfl rfl dX9_isKnown_7 rfl ?_
    refine r_getR F f_X9_7 (hM.1) rfl dX9_isKnown_8 rfl ?_
    refine r_bipush F (by decide) dX9_isKnown_11 rfl ?_
    refine r_iload_n F rfl rfl dX9_isKnown_13 rfl ?_
    refine r_iadd F dX9_isKnown_14 rfl ?_
    refine r_iald F (ja_LM_1 hM) (by omega) (by omega) (by decide) dX9_isKnown_15 rfl ?_
    refine r_eqz (z := (v (Int.toNat (30 + x)))) (by rw [ja_rw_s]) ?_
    have hf := hR.F (j := (30 + x).toNat) (by omega) (by omega)
    refine r_if_le F (tgt := 23) ⟨by omega, by omega⟩ dX9_isKnown_16 rfl (by decide) (fun h_16 => ?_) (fun h_16 => ?_)
    ·
      refine r_iconst F dX9_isKnown_23 rfl ?_
      exact r_zret F Rt (by omega) dX9_isKnown_24 (by decide) ⟨by simp only [ja_b, N_kn]; first | rw [if_pos (by omega)] | rw [if_neg (by omega)], rfl, rfl, rfl⟩
    ·
      refine r_iconst F dX9_isKnown_19 rfl ?_
      refine r_goto F (tgt := 24) dX9_isKnown_20 (by decide) ?_
      exact r_zret F Rt (by omega) dX9_isKnown_24 (by decide) ⟨by simp only [ja_b, N_kn]; first | rw [if_pos (by omega)] | rw [if_neg (by omega)], rfl, rfl, rfl⟩
abbrev rm_X9_packet : Room := { frames := 0, cells := 0, slots := 0, locals := 0 }
set_option maxRecDepth 100000 in
set_option maxHeartbeats 800000 in
theorem c_X9_packet (l : Launch) (D : va_G) (cA : Nat → ClassId) (B : Nat) {lay : ja_Y} {n : Nat} {m : Nat} {G : ja_M} {v : Nat → Int} (hM : ja_LM lay m) {r k i : Int} (hr : 0 ≤ r ∧ r ≤ 1) (hS : N_S v) (hk : N_hB v k) (hi : 0 ≤ i ∧ i ≤ 6) : ja_Mt l D cA B yX9_packet cX9_packet 4 (some .int) rm_X9_packet [.ref m, .int (ja_I r), .int (ja_I k), .int (ja_I i)] lay (ja_rw G (m + 1) v) n (ja_rd lay (ja_rw G (m + 1) v) n (some (.int (ja_I (N_pk v r k i))))) := by
  refine ja_enter [some (.ref m), some (.int (ja_I r)), some (.int (ja_I k)), some (.int (ja_I i))] (by decide) (Nat.le_of_ble_eq_true rfl) (fun q hq => hq) (fun C F Rt GC hnm => ?_)
  refine r_iload_n F rfl rfl dX9_packet_0 rfl ?_
  refine r_if_eq F (tgt := 21) ⟨by omega, by omega⟩ dX9_packet_1 rfl (by decide) (fun h_1 => ?_) (fun h_1 => ?_)
  ·
    refine r_sipush F (by decide) dX9_packet_21 rfl ?_
    refine r_aload_n F rfl rfl dX9_packet_24 rfl ?_
    refine r_getR F f_X9_7 (hM.1) rfl dX9_packet_25 rfl ?_
    refine r_iconst F dX9_packet_28 rfl ?_
    refine r_iald F (ja_LM_1 hM) (by omega) (by omega) (by decide) dX9_packet_29 rfl ?_
    refine r_eqz (z := (v 3)) (by rw [ja_rw_s, show Int.toNat 3 = 3 from rfl]) ?_
    refine r_iload_n F rfl rfl dX9_packet_30 rfl ?_
    refine r_imul F dX9_packet_31 rfl ?_
    refine r_iadd F dX9_packet_32 rfl ?_
    refine r_iload_n F rfl rfl dX9_packet_33 rfl ?_
    refine r_iadd F dX9_packet_34 rfl ?_
    exact r_iret F Rt dX9_packet_35 (by decide) ⟨by simp only [N_pk]; first | rw [if_pos (by omega)] | rw [if_neg (by omega)], rfl, rfl, rfl⟩
  ·
    refine r_sipush F (by decide) dX9_packet_4 rfl ?_
    refine r_aload_n F rfl rfl dX9_packet_7 rfl ?_
    refine r_getR F f_X9_7 (hM.1) rfl dX9_packet_8 rfl ?_
    refine r_iconst F dX9_packet_11 rfl ?_
    refine r_iald F (ja_LM_1 hM) (by omega) (by omega) (by decide) dX9_packet_12 rfl ?_
    refine r_eqz (z := (v 4)) (by rw [ja_rw_s, show Int.toNat 4 = 4 from rfl]) ?_
    refine r_iload_n F rfl rfl dX9_packet_13 rfl ?_
    refine r_imul F dX9_packet_14 rfl ?_
    refine r_iadd F dX9_packet_15 rfl ?_
    refine r_iload_n F rfl rfl dX9_packet_16 rfl ?_
    refine r_iadd F dX9_packet_17 rfl ?_
    refine r_goto F (tgt := 35) dX9_packet_18 (by decide) ?_
    exact r_iret F Rt dX9_packet_35 (by decide) ⟨by simp only [N_pk]; first | rw [if_pos (by omega)] | rw [if_neg (by omega)], rfl, rfl, rfl⟩
abbrev rm_X9_covers : Room := { frames := 0, cells := 0, slots := 0, locals := 0 }
set_option maxRecDepth 100000 in
set_option maxHeartbeats 800000 in
theorem c_X9_covers (l : Launch) (D : va_G) (cA : Nat → ClassId) (B : Nat) {lay : ja_Y} {n : Nat} {m : Nat} {G : ja_M} {v : Nat → Int} (hM : ja_LM lay m) {r : Int} (hr : 0 ≤ r ∧ r ≤ 1) : ja_Mt l D cA B yX9_covers cX9_covers 2 (some .int) rm_X9_covers [.ref m, .int (ja_I r)] lay (ja_rw G (m + 1) v) n (ja_rd lay (ja_rw G (m + 1) v) n (some (.int (ja_I (N_cs v r))))) := by
  refine ja_enter [some (.ref m), some (.int (ja_I r))] (by decide) (Nat.le_of_ble_eq_true rfl) (fun q hq => hq) (fun C F Rt GC hnm => ?_)
  refine r_iload_n F rfl rfl dX9_covers_0 rfl ?_
  refine r_if_eq F (tgt := 13) ⟨by omega, by omega⟩ dX9_covers_1 rfl (by decide) (fun h_1 => ?_) (fun h_1 => ?_)
  ·
    refine r_aload_n F rfl rfl dX9_covers_13 rfl ?_
    refine r_getR F f_X9_7 (hM.1) rfl dX9_covers_14 rfl ?_
    refine r_iconst F dX9_covers_17 rfl ?_
    refine r_iald F (ja_LM_1 hM) (by omega) (by omega) (by decide) dX9_covers_18 rfl ?_
    refine r_eqz (z := (v 4)) (by rw [ja_rw_s, show Int.toNat 4 = 4 from rfl]) ?_
    exact r_iret F Rt dX9_covers_19 (by decide) ⟨by simp only [N_cs]; first | rw [if_pos (by omega)] | rw [if_neg (by omega)], rfl, rfl, rfl⟩
  ·
    refine r_aload_n F rfl rfl dX9_covers_4 rfl ?_
    refine r_getR F f_X9_7 (hM.1) rfl dX9_covers_5 rfl ?_
    refine r_iconst F dX9_covers_8 rfl ?_
    refine r_iald F (ja_LM_1 hM) (by omega) (by omega) (by decide) dX9_covers_9 rfl ?_
    refine r_eqz (z := (v 3)) (by rw [ja_rw_s, show Int.toNat 3 = 3 from rfl]) ?_
    refine r_goto F (tgt := 19) dX9_covers_10 (by decide) ?_
    exact r_iret F Rt dX9_covers_19 (by decide) ⟨by simp only [N_cs]; first | rw [if_pos (by omega)] | rw [if_neg (by omega)], rfl, rfl, rfl⟩
abbrev rm_X9_covered : Room := { frames := 1, cells := 0, slots := 0, locals := 20 }
set_option maxRecDepth 100000 in
set_option maxHeartbeats 800000 in
theorem c_X9_covered (l : Launch) (D : va_G) (cA : Nat → ClassId) (B : Nat) {lay : ja_Y} {n : Nat} {m : Nat} {G : ja_M} {v : Nat → Int} (hM : ja_LM lay m) {r k i j : Int} (hS : N_S v) (hr : 0 ≤ r ∧ r ≤ 1) : ja_Mt l D cA B yX9_covered cX9_covered 5 (some .int) rm_X9_covered [.ref m, .int (ja_I r), .int (ja_I k), .int (ja_I i), .int (ja_I j)] lay (ja_rw G (m + 1) v) n (ja_rd lay (ja_rw G (m + 1) v) n (some (.int (ja_I (N_cv v r k i j))))) := by
  refine ja_enter [some (.ref m), some (.int (ja_I r)), some (.int (ja_I k)), some (.int (ja_I i)), some (.int (ja_I j))] (by decide) (Nat.le_of_ble_eq_true rfl) (fun q hq => hq) (fun C F Rt GC hnm => ?_)
  refine r_aload_n F rfl rfl dX9_covered_0 rfl ?_
  refine r_callV F GC (c_X9_area _ _ _ _ hM hS) v_X9_47 rfl (hM.1) rfl (by decide) (by decide) (Nat.le_of_ble_eq_true rfl) rfl dX9_covered_1 rfl (fun v lay' mem' n' hp => ?_)
  obtain ⟨q1, q2, q3, q4⟩ := hp
  subst q1; subst q2; subst q3; subst q4
  refine r_iload_n F rfl rfl dX9_covered_4 rfl ?_
  refine r_imul F dX9_covered_5 rfl ?_
  refine r_iload_n F rfl rfl dX9_covered_6 rfl ?_
  refine r_if_eq F (tgt := 24) ⟨by omega, by omega⟩ dX9_covered_7 rfl (by decide) (fun h_7 => ?_) (fun h_7 => ?_)
  ·
    refine r_aload_n F rfl rfl dX9_covered_24 rfl ?_
    refine r_getR F f_X9_7 (hM.1) rfl dX9_covered_25 rfl ?_
    refine r_iconst F dX9_covered_28 rfl ?_
    refine r_iald F (ja_LM_1 hM) (by omega) (by omega) (by decide) dX9_covered_29 rfl ?_
    refine r_eqz (z := (v 3)) (by rw [ja_rw_s, show Int.toNat 3 = 3 from rfl]) ?_
    refine r_iload F rfl dX9_covered_30 rfl ?_
    refine r_imul F dX9_covered_32 rfl ?_
    refine r_iload_n F rfl rfl dX9_covered_33 rfl ?_
    refine r_iadd F dX9_covered_34 rfl ?_
    refine r_iadd F dX9_covered_35 rfl ?_
    exact r_iret F Rt dX9_covered_36 (by decide) ⟨by simp only [N_cv]; first | rw [if_pos (by omega)] | rw [if_neg (by omega)], rfl, rfl, rfl⟩
  ·
    refine r_aload_n F rfl rfl dX9_covered_10 rfl ?_
    refine r_getR F f_X9_7 (hM.1) rfl dX9_covered_11 rfl ?_
    refine r_iconst F dX9_covered_14 rfl ?_
    refine r_iald F (ja_LM_1 hM) (by omega) (by omega) (by decide) dX9_covered_15 rfl ?_
    refine r_eqz (z := (v 3)) (by rw [ja_rw_s, show Int.toNat 3 = 3 from rfl]) ?_
    refine r_iload_n F rfl rfl dX9_covered_16 rfl ?_
    refine r_imul F dX9_covered_17 rfl ?_
    refine r_iload F rfl dX9_covered_18 rfl ?_
    refine r_iadd F dX9_covered_20 rfl ?_
    refine r_goto F (tgt := 35) dX9_covered_21 (by decide) ?_
    refine r_iadd F dX9_covered_35 rfl ?_
    exact r_iret F Rt dX9_covered_36 (by decide) ⟨by simp only [N_cv]; first | rw [if_pos (by omega)] | rw [if_neg (by omega)], rfl, rfl, rfl⟩
abbrev rm_X9_missingOf : Room := { frames := 2, cells := 0, slots := 0, locals := 44 }
set_option maxRecDepth 100000 in
set_option maxHeartbeats 800000 in
theorem c_X9_missingOf (l : Launch) (D : va_G) (cA : Nat → ClassId) (B : Nat) {lay : ja_Y} {n : Nat} {m : Nat} {G : ja_M} {v : Nat → Int} (hM : ja_LM lay m) {r k i : Int} (hR : N_R v) (hr : 0 ≤ r ∧ r ≤ 1) (hk : N_hB v k) (hi : 0 ≤ i ∧ i ≤ 6) : ja_Mt l D cA B yX9_missingOf cX9_missingOf 6 (some .int) rm_X9_missingOf [.ref m, .int (ja_I r), .int (ja_I k), .int (ja_I i)] lay (ja_rw G (m + 1) v) n (ja_rd lay (ja_rw G (m + 1) v) n (some (.int (ja_I (N_mi v r k i (N_cs v r).toNat))))) := by
  refine ja_enter [some (.ref m), some (.int (ja_I r)), some (.int (ja_I k)), some (.int (ja_I i)), none, none] (by decide) (Nat.le_of_ble_eq_true rfl) (fun q hq => hq) (fun C F Rt GC hnm => ?_)
  have hS := hR.S
  have hcs := @N_cs_in v r hS
  refine r_iconst F dX9_missingOf_0 rfl ?_
  refine r_ist4 F (by decide) rfl dX9_missingOf_1 rfl ?_
  refine r_iconst F dX9_missingOf_3 rfl ?_
  refine r_ist5 F (by decide) rfl dX9_missingOf_4 rfl ?_
  have loop : ∀ (d c : Nat), c + d = (N_cs v r).toNat → ja_W C 0 0 lay (ja_rw G (m + 1) (v)) n 6 [some (.ref (m)), some (.int (ja_I (r))), some (.int (ja_I (k))), some (.int (ja_I (i))), some (.int (ja_I (N_mi v r k i c))), some (.int (ja_I ((c : Int))))] [] := by
    intro d
    induction d with
    | zero =>
      intro c hc
      refine r_iload F rfl dX9_missingOf_6 rfl ?_
      refine r_aload_n F rfl rfl dX9_missingOf_8 rfl ?_
      refine r_iload_n F rfl rfl dX9_missingOf_9 rfl ?_
      refine r_callV F GC (c_X9_covers _ _ _ _ hM ⟨by omega, by omega⟩) v_X9_51 rfl (hM.1) rfl (by decide) (by decide) (Nat.le_of_ble_eq_true rfl) rfl dX9_missingOf_10 rfl (fun v lay' mem' n' hp => ?_)
      obtain ⟨q1, q2, q3, q4⟩ := hp
      subst q1; subst q2; subst q3; subst q4
      refine r_icmp_ge F (tgt := 48) ⟨by omega, by omega⟩ ⟨by omega, by omega⟩ dX9_missingOf_13 rfl (by decide) (fun h_13 => ?_) (fun h_13 => ?_)
      ·
        refine r_iload F rfl dX9_missingOf_48 rfl ?_
        exact r_iret F Rt dX9_missingOf_50 (by decide) ⟨by rw [show (N_cs v r).toNat = c by omega], rfl, rfl, rfl⟩
      ·
        exfalso; omega
    | succ d ih =>
      intro c hc
      have hcv := N_cv_in (r := r) (j := (c : Int)) hS hk hi ⟨by omega, by omega⟩
      refine r_iload F rfl dX9_missingOf_6 rfl ?_
      refine r_aload_n F rfl rfl dX9_missingOf_8 rfl ?_
      refine r_iload_n F rfl rfl dX9_missingOf_9 rfl ?_
      refine r_callV F GC (c_X9_covers _ _ _ _ hM ⟨by omega, by omega⟩) v_X9_51 rfl (hM.1) rfl (by decide) (by decide) (Nat.le_of_ble_eq_true rfl) rfl dX9_missingOf_10 rfl (fun v lay' mem' n' hp => ?_)
      obtain ⟨q1, q2, q3, q4⟩ := hp
      subst q1; subst q2; subst q3; subst q4
      refine r_icmp_ge F (tgt := 48) ⟨by omega, by omega⟩ ⟨by omega, by omega⟩ dX9_missingOf_13 rfl (by decide) (fun h_13 => ?_) (fun h_13 => ?_)
      ·
        exfalso; omega
      ·
        refine r_iload F rfl dX9_missingOf_16 rfl ?_
        refine r_aload_n F rfl rfl dX9_missingOf_18 rfl ?_
        refine r_aload_n F rfl rfl dX9_missingOf_19 rfl ?_
        refine r_iload_n F rfl rfl dX9_missingOf_20 rfl ?_
        refine r_iload_n F rfl rfl dX9_missingOf_21 rfl ?_
        refine r_iload_n F rfl rfl dX9_missingOf_22 rfl ?_
        refine r_iload F rfl dX9_missingOf_23 rfl ?_
        refine r_callV F GC (c_X9_covered _ _ _ _ hM hS ⟨by omega, by omega⟩) v_X9_55 rfl (hM.1) rfl (by decide) (by decide) (Nat.le_of_ble_eq_true rfl) rfl dX9_missingOf_25 rfl (fun v lay' mem' n' hp => ?_)
        obtain ⟨q1, q2, q3, q4⟩ := hp
        subst q1; subst q2; subst q3; subst q4
        refine r_callV F GC (c_X9_isKnown _ _ _ _ hM hR ⟨hcv.1, by omega⟩) v_X9_59 rfl (hM.1) rfl (by decide) (by decide) (Nat.le_of_ble_eq_true rfl) rfl dX9_missingOf_28 rfl (fun v lay' mem' n' hp => ?_)
        obtain ⟨q1, q2, q3, q4⟩ := hp
        subst q1; subst q2; subst q3; subst q4
        refine r_if_eq F (tgt := 38) ja_b_in dX9_missingOf_31 rfl (by decide) (fun h_31 => ?_) (fun h_31 => ?_)
        ·
          have b_31 : ¬ (N_kn v (N_cv v r k i (c : Int))) := ja_b_0.mp h_31
          refine r_iconst F dX9_missingOf_38 rfl ?_
          refine r_iadd F dX9_missingOf_39 rfl ?_
          refine r_ist4 F (by decide) rfl dX9_missingOf_40 rfl ?_
          refine r_inc5 F (by decide) rfl dX9_missingOf_42 rfl ?_
          refine r_goto F (tgt := 6) dX9_missingOf_45 (by decide) ?_
          have h0 := ih (c + 1) (by omega)
          simp only [N_mi] at h0
          first
            | (rw [if_pos b_31] at h0; exact h0)
            | (rw [if_neg b_31] at h0; exact h0)
        ·
          have b_31 : (N_kn v (N_cv v r k i (c : Int))) := ja_b_1 h_31
          refine r_iconst F dX9_missingOf_34 rfl ?_
          refine r_goto F (tgt := 39) dX9_missingOf_35 (by decide) ?_
          refine r_iadd F dX9_missingOf_39 rfl ?_
          refine r_ist4 F (by decide) rfl dX9_missingOf_40 rfl ?_
          refine r_inc5 F (by decide) rfl dX9_missingOf_42 rfl ?_
          refine r_goto F (tgt := 6) dX9_missingOf_45 (by decide) ?_
          have h0 := ih (c + 1) (by omega)
          simp only [N_mi] at h0
          first
            | (rw [if_pos b_31] at h0; exact h0)
            | (rw [if_neg b_31] at h0; exact h0)
  exact loop ((N_cs v r).toNat) 0 (by omega)
abbrev rm_X9_restoresBy : Room := { frames := 3, cells := 0, slots := 0, locals := 69 }
set_option maxRecDepth 100000 in
set_option maxHeartbeats 800000 in
theorem c_X9_restoresBy (l : Launch) (D : va_G) (cA : Nat → ClassId) (B : Nat) {lay : ja_Y} {n : Nat} {m : Nat} {G : ja_M} {v : Nat → Int} (hM : ja_LM lay m) {r k i : Int} (hR : N_R v) (hr : 0 ≤ r ∧ r ≤ 1) (hk : N_hB v k) (hi : 0 ≤ i ∧ i ≤ 6) : ja_Mt l D cA B yX9_restoresBy cX9_restoresBy 6 (some .int) rm_X9_restoresBy [.ref m, .int (ja_I r), .int (ja_I k), .int (ja_I i)] lay (ja_rw G (m + 1) v) n (ja_rd lay (ja_rw G (m + 1) (N_rv v r k i)) n (some (.int (ja_I (N_rn v r k i))))) := by
  refine ja_enter [some (.ref m), some (.int (ja_I r)), some (.int (ja_I k)), some (.int (ja_I i)), none, none] (by decide) (Nat.le_of_ble_eq_true rfl) (fun q hq => hq) (fun C F Rt GC hnm => ?_)
  have hS := hR.S
  have hcs := @N_cs_in v r hS
  have hmi := @N_mi_in v r k i (N_cs v r).toNat
  refine r_aload_n F rfl rfl dX9_restoresBy_0 rfl ?_
  refine r_iload_n F rfl rfl dX9_restoresBy_1 rfl ?_
  refine r_iload_n F rfl rfl dX9_restoresBy_2 rfl ?_
  refine r_iload_n F rfl rfl dX9_restoresBy_3 rfl ?_
  refine r_callV F GC (c_X9_missingOf _ _ _ _ hM hR ⟨by omega, by omega⟩ hk ⟨by omega, by omega⟩) v_X9_63 rfl (hM.1) rfl (by decide) (by decide) (Nat.le_of_ble_eq_true rfl) rfl dX9_restoresBy_4 rfl (fun v lay' mem' n' hp => ?_)
  obtain ⟨q1, q2, q3, q4⟩ := hp
  subst q1; subst q2; subst q3; subst q4
  refine r_iconst F dX9_restoresBy_7 rfl ?_
  refine r_icmp_eq F (tgt := 13) ⟨by omega, by omega⟩ ⟨by omega, by omega⟩ dX9_restoresBy_8 rfl (by decide) (fun h_8 => ?_) (fun h_8 => ?_)
  ·
    have e1 : N_mi v r k i (N_cs v r).toNat = 1 := h_8
    refine r_iconst F dX9_restoresBy_13 rfl ?_
    refine r_ist4 F (by decide) rfl dX9_restoresBy_14 rfl ?_
    have loop : ∀ (d c : Nat), c + d = (N_cs v r).toNat → ja_W C 0 0 lay (ja_rw G (m + 1) (N_r1 v r k i c)) n 16 [some (.ref (m)), some (.int (ja_I (r))), some (.int (ja_I (k))), some (.int (ja_I (i))), some (.int (ja_I ((c : Int)))), none] [] := by
      intro d
      induction d with
      | zero =>
        intro c hc
        have hfr := N_r1_fr (r := r) hS hk hi c (by omega)
        refine r_iload F rfl dX9_restoresBy_16 rfl ?_
        refine r_aload_n F rfl rfl dX9_restoresBy_18 rfl ?_
        refine r_iload_n F rfl rfl dX9_restoresBy_19 rfl ?_
        refine r_callV F GC (c_X9_covers _ _ _ _ hM ⟨by omega, by omega⟩) v_X9_51 rfl (hM.1) rfl (by decide) (by decide) (Nat.le_of_ble_eq_true rfl) rfl dX9_restoresBy_20 rfl (fun v lay' mem' n' hp => ?_)
        obtain ⟨q1, q2, q3, q4⟩ := hp
        subst q1; subst q2; subst q3; subst q4
        refine r_eqz (z := N_cs v r) hfr.ss.cs ?_
        refine r_icmp_ge F (tgt := 63) ⟨by omega, by omega⟩ ⟨by omega, by omega⟩ dX9_restoresBy_23 rfl (by decide) (fun h_23 => ?_) (fun h_23 => ?_)
        ·
          refine r_iconst F dX9_restoresBy_63 rfl ?_
          exact r_iret F Rt dX9_restoresBy_64 (by decide) ⟨by rw [N_rn, if_pos e1], rfl, by rw [N_rv, if_pos e1, show (N_cs v r).toNat = c by omega], rfl⟩
        ·
          exfalso; omega
      | succ d ih =>
        intro c hc
        have hfr := N_r1_fr (r := r) hS hk hi c (by omega)
        have hcv := N_cv_in (r := r) (j := (c : Int)) hS hk hi ⟨by omega, by omega⟩
        refine r_iload F rfl dX9_restoresBy_16 rfl ?_
        refine r_aload_n F rfl rfl dX9_restoresBy_18 rfl ?_
        refine r_iload_n F rfl rfl dX9_restoresBy_19 rfl ?_
        refine r_callV F GC (c_X9_covers _ _ _ _ hM ⟨by omega, by omega⟩) v_X9_51 rfl (hM.1) rfl (by decide) (by decide) (Nat.le_of_ble_eq_true rfl) rfl dX9_restoresBy_20 rfl (fun v lay' mem' n' hp => ?_)
        obtain ⟨q1, q2, q3, q4⟩ := hp
        subst q1; subst q2; subst q3; subst q4
        refine r_eqz (z := N_cs v r) hfr.ss.cs ?_
        refine r_icmp_ge F (tgt := 63) ⟨by omega, by omega⟩ ⟨by omega, by omega⟩ dX9_restoresBy_23 rfl (by decide) (fun h_23 => ?_) (fun h_23 => ?_)
        ·
          exfalso; omega
        ·
          refine r_aload_n F rfl rfl dX9_restoresBy_26 rfl ?_
          refine r_iload_n F rfl rfl dX9_restoresBy_27 rfl ?_
          refine r_iload_n F rfl rfl dX9_restoresBy_28 rfl ?_
          refine r_iload_n F rfl rfl dX9_restoresBy_29 rfl ?_
          refine r_iload F rfl dX9_restoresBy_30 rfl ?_
          refine r_callV F GC (c_X9_covered _ _ _ _ hM (hfr.ss.S hS) ⟨by omega, by omega⟩) v_X9_55 rfl (hM.1) rfl (by decide) (by decide) (Nat.le_of_ble_eq_true rfl) rfl dX9_restoresBy_32 rfl (fun v lay' mem' n' hp => ?_)
          obtain ⟨q1, q2, q3, q4⟩ := hp
          subst q1; subst q2; subst q3; subst q4
          refine r_eqz (z := N_cv v r k i (c : Int)) hfr.ss.cv ?_
          refine r_ist5 F (by decide) rfl dX9_restoresBy_35 rfl ?_
          refine r_aload_n F rfl rfl dX9_restoresBy_37 rfl ?_
          refine r_iload F rfl dX9_restoresBy_38 rfl ?_
          refine r_callV F GC (c_X9_isKnown _ _ _ _ hM (hfr.R hR) ⟨hcv.1, by omega⟩) v_X9_59 rfl (hM.1) rfl (by decide) (by decide) (Nat.le_of_ble_eq_true rfl) rfl dX9_restoresBy_40 rfl (fun v lay' mem' n' hp => ?_)
          obtain ⟨q1, q2, q3, q4⟩ := hp
          subst q1; subst q2; subst q3; subst q4
          refine r_if_ne F (tgt := 57) ja_b_in dX9_restoresBy_43 rfl (by decide) (fun h_43 => ?_) (fun h_43 => ?_)
          ·
            have b_43 : (N_kn (N_r1 v r k i c) (N_cv v r k i (c : Int))) := ja_b_1 h_43
            refine r_inc4 F (by decide) rfl dX9_restoresBy_57 rfl ?_
            refine r_goto F (tgt := 16) dX9_restoresBy_60 (by decide) ?_
            refine r_msk [true, true, true, true, true, false] rfl ?_
            have h0 := ih (c + 1) (by omega)
            simp only [N_r1] at h0
            first
              | (rw [if_pos b_43] at h0; exact h0)
              | (rw [if_neg b_43] at h0; exact h0)
          ·
            have b_43 : ¬ (N_kn (N_r1 v r k i c) (N_cv v r k i (c : Int))) := ja_b_0.mp h_43
            refine r_aload_n F rfl rfl dX9_restoresBy_46 rfl ?_
            refine r_getR F f_X9_7 (hM.1) rfl dX9_restoresBy_47 rfl ?_
            refine r_bipush F (by decide) dX9_restoresBy_50 rfl ?_
            refine r_iload F rfl dX9_restoresBy_52 rfl ?_
            refine r_iadd F dX9_restoresBy_54 rfl ?_
            refine r_iconst F dX9_restoresBy_55 rfl ?_
            refine r_iast F (ja_LM_1 hM) (by omega) (by omega) (by decide) dX9_restoresBy_56 rfl ?_
            refine r_mem (mem' := ja_rw G (m + 1) (ja_rs (N_r1 v r k i c) (Int.toNat (30 + (N_cv v r k i (c : Int)))) 1)) (ja_rw_up _ _ _ _ _) ?_
            refine r_inc4 F (by decide) rfl dX9_restoresBy_57 rfl ?_
            refine r_goto F (tgt := 16) dX9_restoresBy_60 (by decide) ?_
            refine r_msk [true, true, true, true, true, false] rfl ?_
            have h0 := ih (c + 1) (by omega)
            simp only [N_r1] at h0
            first
              | (rw [if_pos b_43] at h0; exact h0)
              | (rw [if_neg b_43] at h0; exact h0)
    exact loop ((N_cs v r).toNat) 0 (by omega)
  ·
    refine r_iconst F dX9_restoresBy_11 rfl ?_
    exact r_iret F Rt dX9_restoresBy_12 (by decide) ⟨by rw [N_rn, if_neg h_8], rfl, by rw [N_rv, if_neg h_8], rfl⟩
abbrev rm_X9_restores : Room := { frames := 4, cells := 0, slots := 0, locals := 94 }
set_option maxRecDepth 100000 in
set_option maxHeartbeats 800000 in
theorem c_X9_restores (l : Launch) (D : va_G) (cA : Nat → ClassId) (B : Nat) {lay : ja_Y} {n : Nat} {m : Nat} {G : ja_M} {v : Nat → Int} (hM : ja_LM lay m) {k a : Int} (hR : N_R v) (hk : N_hB v k) (ha : 0 ≤ a ∧ a ≤ 1) : ja_Mt l D cA B yX9_restores cX9_restores 6 (some .int) rm_X9_restores [.ref m, .int (ja_I k), .int (ja_I a)] lay (ja_rw G (m + 1) v) n (ja_rd lay (ja_rw G (m + 1) ((N_rs a k 40 0 v).2)) n (some (.int (ja_I (N_rs a k 40 0 v).1)))) := by
  refine ja_enter [some (.ref m), some (.int (ja_I k)), some (.int (ja_I a)), none, none, none] (by decide) (Nat.le_of_ble_eq_true rfl) (fun q hq => hq) (fun C F Rt GC hnm => ?_)
  refine r_iconst F dX9_restores_0 rfl ?_
  refine r_ist3 F (by decide) rfl dX9_restores_1 rfl ?_
  refine r_iconst F dX9_restores_2 rfl ?_
  refine r_ist4 F (by decide) rfl dX9_restores_3 rfl ?_
  refine r_iload F rfl dX9_restores_5 rfl ?_
  refine r_iload_n F rfl rfl dX9_restores_7 rfl ?_
  refine r_icmp_eq F (tgt := 129) ⟨by omega, by omega⟩ ⟨by omega, by omega⟩ dX9_restores_8 rfl (by decide) (fun h_8 => ?_) (fun h_8 => ?_)
  ·
    exfalso; omega
  ·
    have loop : ∀ (f : Nat) (z : Int) (w : Nat → Int), N_R w → N_ss v w → N_U w k < f → (0 ≤ z ∧ z + N_U w k ≤ 100) → N_rs a k f z w = N_rs a k 40 0 v → ja_W C 0 0 lay (ja_rw G (m + 1) w) n 11 [some (.ref m), some (.int (ja_I k)), some (.int (ja_I a)), some (.int (ja_I z)), none, none] [] := by
      intro f
      induction f with
      | zero => intro z w _ _ hU; omega
      | succ f ih =>
        intro z w hwR hws hU hz hl
        have hwS := hwR.S
        have hkw := hws.hB.mpr hk
        have s3 := hwS.2.2.2.1
        have s4 := hwS.2.2.2.2.1
        have hun := N_rd_un (a := a) hwS hkw
        have hdf := N_rd_fr (a := a) hwS hkw
        refine r_iload_n F rfl rfl dX9_restores_11 rfl ?_
        refine r_ist4 F (by decide) rfl dX9_restores_12 rfl ?_
        refine r_iconst F dX9_restores_14 rfl ?_
        refine r_ist5 F (by decide) rfl dX9_restores_15 rfl ?_
        have lpA : ∀ (d c : Nat), c + d = (w 4).toNat → ja_W C 0 0 lay (ja_rw G (m + 1) ((N_rr a w 1 k c).2)) n 17 [some (.ref (m)), some (.int (ja_I (k))), some (.int (ja_I (a))), some (.int (ja_I ((z + (N_rr a w 1 k c).1)))), some (.int (ja_I (z))), some (.int (ja_I ((c : Int))))] [] := by
          intro d
          induction d with
          | zero =>
            intro c hc
            have hfr := N_rr_fr (a := a) (r := 1) hwS hkw c (by omega)
            have hxR := hfr.R hwR
            have hxk := hfr.ss.hB.mpr hkw
            have e3 := hfr.ss 3 (by omega)
            have e4 := hfr.ss 4 (by omega)
            refine r_iload F rfl dX9_restores_17 rfl ?_
            refine r_aload_n F rfl rfl dX9_restores_19 rfl ?_
            refine r_getR F f_X9_7 (hM.1) rfl dX9_restores_20 rfl ?_
            refine r_iconst F dX9_restores_23 rfl ?_
            refine r_iald F (ja_LM_1 hM) (by omega) (by omega) (by decide) dX9_restores_24 rfl ?_
            refine r_eqz (z := (((N_rr a w 1 k c).2) 4)) (by rw [ja_rw_s, show Int.toNat 4 = 4 from rfl]) ?_
            refine r_icmp_ge F (tgt := 70) ⟨by omega, by omega⟩ ⟨by omega, by omega⟩ dX9_restores_25 rfl (by decide) (fun h_25 => ?_) (fun h_25 => ?_)
            ·
              refine r_iconst F dX9_restores_70 rfl ?_
              refine r_ist5 F (by decide) rfl dX9_restores_71 rfl ?_
              obtain rfl : c = (w 4).toNat := by omega
              have h1f := N_rr_fr (a := a) (r := 1) hwS hkw (w 4).toNat (by omega)
              have h1S := h1f.ss.S hwS
              have h1k := h1f.ss.hB.mpr hkw
              have h1R := h1f.R hwR
              have h13 := h1f.ss 3 (by omega)
              generalize hu : (N_rr a w 1 k (w 4).toNat).2 = u at *
              generalize hy : z + (N_rr a w 1 k (w 4).toNat).1 = y at *
              have lpB : ∀ (d c : Nat), c + d = (u 3).toNat → ja_W C 0 0 lay (ja_rw G (m + 1) ((N_rr a u 0 k c).2)) n 73 [some (.ref (m)), some (.int (ja_I (k))), some (.int (ja_I (a))), some (.int (ja_I ((y + (N_rr a u 0 k c).1)))), some (.int (ja_I (z))), some (.int (ja_I ((c : Int))))] [] := by
                intro d
                induction d with
                | zero =>
                  intro c hc
                  have hfr := N_rr_fr (a := a) (r := 0) h1S h1k c (by omega)
                  have hxR := hfr.R h1R
                  have hxk := hfr.ss.hB.mpr h1k
                  have e3 := hfr.ss 3 (by omega)
                  have e4 := hfr.ss 4 (by omega)
                  refine r_iload F rfl dX9_restores_73 rfl ?_
                  refine r_aload_n F rfl rfl dX9_restores_75 rfl ?_
                  refine r_getR F f_X9_7 (hM.1) rfl dX9_restores_76 rfl ?_
                  refine r_iconst F dX9_restores_79 rfl ?_
                  refine r_iald F (ja_LM_1 hM) (by omega) (by omega) (by decide) dX9_restores_80 rfl ?_
                  refine r_eqz (z := (((N_rr a u 0 k c).2) 3)) (by rw [ja_rw_s, show Int.toNat 3 = 3 from rfl]) ?_
                  refine r_icmp_ge F (tgt := 126) ⟨by omega, by omega⟩ ⟨by omega, by omega⟩ dX9_restores_81 rfl (by decide) (fun h_81 => ?_) (fun h_81 => ?_)
                  ·
                    refine r_goto F (tgt := 5) dX9_restores_126 (by decide) ?_
                    obtain rfl : c = (u 3).toNat := by omega
                    have hrd : N_rd a w k = ((N_rr a w 1 k (w 4).toNat).1 + (N_rr a u 0 k (u 3).toNat).1, (N_rr a u 0 k (u 3).toNat).2) := by rw [← hu, N_rd, hu, show u 3 = w 3 by rw [← hu] at h13 ⊢; exact h13]
                    have hrn : y + (N_rr a u 0 k (u 3).toNat).1 = z + (N_rd a w k).1 := by rw [hrd, ← hy]; dsimp only; omega
                    have hrv : (N_rr a u 0 k (u 3).toNat).2 = (N_rd a w k).2 := by rw [hrd]
                    rw [hrn, hrv]
                    refine r_msk [true, true, true, true, true, false] rfl ?_
                    refine r_iload F rfl dX9_restores_5 rfl ?_
                    refine r_iload_n F rfl rfl dX9_restores_7 rfl ?_
                    refine r_icmp_eq F (tgt := 129) ⟨by omega, by omega⟩ ⟨by omega, by omega⟩ dX9_restores_8 rfl (by decide) (fun h_8 => ?_) (fun h_8 => ?_)
                    ·
                      have e0 : (N_rd a w k).1 = 0 := by omega
                      refine r_iload_n F rfl rfl dX9_restores_129 rfl ?_
                      exact r_iret F Rt dX9_restores_130 (by decide) ⟨by rw [← hl]; simp only [N_rs]; rw [if_pos e0, e0]; dsimp only; rw [Int.add_zero], rfl, by rw [← hl]; simp only [N_rs]; rw [if_pos e0], rfl⟩
                    ·
                      have e0 : ¬ (N_rd a w k).1 = 0 := by omega
                      refine r_msk [true, true, true, true, false, false] rfl ?_
                      refine ih _ _ (hdf.R hwR) (hws.tr hdf.ss) (by omega) ⟨by omega, by omega⟩ ?_
                      rw [← hl]
                      simp only [N_rs]
                      rw [if_neg e0]
                  ·
                    exfalso; omega
                | succ d ihr =>
                  intro c hc
                  have hfr := N_rr_fr (a := a) (r := 0) h1S h1k c (by omega)
                  have hxR := hfr.R h1R
                  have hxk := hfr.ss.hB.mpr h1k
                  have e3 := hfr.ss 3 (by omega)
                  have e4 := hfr.ss 4 (by omega)
                  have hpk := N_pk_in (r := 0) (i := (c : Int)) hxR.S hxk ⟨by omega, by omega⟩
                  have epk : N_pk (N_rr a u 0 k c).2 0 k (c : Int) = N_pk u 0 k (c : Int) := hfr.ss.pk
                  have hpr := hxR.K (j := (N_pk (N_rr a u 0 k c).2 0 k (c : Int)).toNat) (by omega) (by omega)
                  refine r_iload F rfl dX9_restores_73 rfl ?_
                  refine r_aload_n F rfl rfl dX9_restores_75 rfl ?_
                  refine r_getR F f_X9_7 (hM.1) rfl dX9_restores_76 rfl ?_
                  refine r_iconst F dX9_restores_79 rfl ?_
                  refine r_iald F (ja_LM_1 hM) (by omega) (by omega) (by decide) dX9_restores_80 rfl ?_
                  refine r_eqz (z := (((N_rr a u 0 k c).2) 3)) (by rw [ja_rw_s, show Int.toNat 3 = 3 from rfl]) ?_
                  refine r_icmp_ge F (tgt := 126) ⟨by omega, by omega⟩ ⟨by omega, by omega⟩ dX9_restores_81 rfl (by decide) (fun h_81 => ?_) (fun h_81 => ?_)
                  ·
                    exfalso; omega
                  ·
                    refine r_iload_n F rfl rfl dX9_restores_84 rfl ?_
                    refine r_iload_n F rfl rfl dX9_restores_85 rfl ?_
                    refine r_if_ne F (tgt := 106) ⟨by omega, by omega⟩ dX9_restores_86 rfl (by decide) (fun h_86 => ?_) (fun h_86 => ?_)
                    ·
                      refine r_aload_n F rfl rfl dX9_restores_106 rfl ?_
                      refine r_iconst F dX9_restores_107 rfl ?_
                      refine r_iload_n F rfl rfl dX9_restores_108 rfl ?_
                      refine r_iload F rfl dX9_restores_109 rfl ?_
                      refine r_callV F GC (c_X9_restoresBy _ _ _ _ hM hxR ⟨by omega, by omega⟩ hxk ⟨by omega, by omega⟩) v_X9_70 rfl (hM.1) rfl (by decide) (by decide) (Nat.le_of_ble_eq_true rfl) rfl dX9_restores_111 rfl (fun v lay' mem' n' hp => ?_)
                      obtain ⟨q1, q2, q3, q4⟩ := hp
                      subst q1; subst q2; subst q3; subst q4
                      refine r_goto F (tgt := 118) dX9_restores_114 (by decide) ?_
                      refine r_iadd F dX9_restores_118 rfl ?_
                      refine r_ist3 F (by decide) rfl dX9_restores_119 rfl ?_
                      refine r_inc5 F (by decide) rfl dX9_restores_120 rfl ?_
                      refine r_goto F (tgt := 73) dX9_restores_123 (by decide) ?_
                      have h0 := ihr (c + 1) (by omega)
                      simp only [N_rr] at h0
                      first
                        | (rw [if_pos (Or.inl h_86)] at h0; rw [Int.add_assoc]; exact h0)
                        | (rw [if_pos (Or.inr (epk ▸ h_103))] at h0; rw [Int.add_assoc]; exact h0)
                        | (rw [if_neg (fun q => q.elim (fun q2 => q2 (by omega)) (fun q2 => h_103 (by rw [epk]; exact q2)))] at h0; rw [Int.add_zero]; exact h0)
                    ·
                      refine r_aload_n F rfl rfl dX9_restores_89 rfl ?_
                      refine r_getR F f_X9_7 (hM.1) rfl dX9_restores_90 rfl ?_
                      refine r_aload_n F rfl rfl dX9_restores_93 rfl ?_
                      refine r_iconst F dX9_restores_94 rfl ?_
                      refine r_iload_n F rfl rfl dX9_restores_95 rfl ?_
                      refine r_iload F rfl dX9_restores_96 rfl ?_
                      refine r_callV F GC (c_X9_packet _ _ _ _ hM ⟨by omega, by omega⟩ hxR.S hxk ⟨by omega, by omega⟩) v_X9_67 rfl (hM.1) rfl (by decide) (by decide) (Nat.le_of_ble_eq_true rfl) rfl dX9_restores_98 rfl (fun v lay' mem' n' hp => ?_)
                      obtain ⟨q1, q2, q3, q4⟩ := hp
                      subst q1; subst q2; subst q3; subst q4
                      refine r_iald F (ja_LM_1 hM) (by omega) (by omega) (by decide) dX9_restores_101 rfl ?_
                      refine r_eqz (z := (((N_rr a u 0 k c).2) (Int.toNat (N_pk (N_rr a u 0 k c).2 0 k (c : Int))))) (by rw [ja_rw_s]) ?_
                      refine r_iconst F dX9_restores_102 rfl ?_
                      refine r_icmp_ne F (tgt := 117) ⟨by omega, by omega⟩ ⟨by omega, by omega⟩ dX9_restores_103 rfl (by decide) (fun h_103 => ?_) (fun h_103 => ?_)
                      ·
                        refine r_iconst F dX9_restores_117 rfl ?_
                        refine r_iadd F dX9_restores_118 rfl ?_
                        refine r_ist3 F (by decide) rfl dX9_restores_119 rfl ?_
                        refine r_inc5 F (by decide) rfl dX9_restores_120 rfl ?_
                        refine r_goto F (tgt := 73) dX9_restores_123 (by decide) ?_
                        have h0 := ihr (c + 1) (by omega)
                        simp only [N_rr] at h0
                        first
                          | (rw [if_pos (Or.inl h_86)] at h0; rw [Int.add_assoc]; exact h0)
                          | (rw [if_pos (Or.inr (epk ▸ h_103))] at h0; rw [Int.add_assoc]; exact h0)
                          | (rw [if_neg (fun q => q.elim (fun q2 => q2 (by omega)) (fun q2 => h_103 (by rw [epk]; exact q2)))] at h0; rw [Int.add_zero]; exact h0)
                      ·
                        refine r_aload_n F rfl rfl dX9_restores_106 rfl ?_
                        refine r_iconst F dX9_restores_107 rfl ?_
                        refine r_iload_n F rfl rfl dX9_restores_108 rfl ?_
                        refine r_iload F rfl dX9_restores_109 rfl ?_
                        refine r_callV F GC (c_X9_restoresBy _ _ _ _ hM hxR ⟨by omega, by omega⟩ hxk ⟨by omega, by omega⟩) v_X9_70 rfl (hM.1) rfl (by decide) (by decide) (Nat.le_of_ble_eq_true rfl) rfl dX9_restores_111 rfl (fun v lay' mem' n' hp => ?_)
                        obtain ⟨q1, q2, q3, q4⟩ := hp
                        subst q1; subst q2; subst q3; subst q4
                        refine r_goto F (tgt := 118) dX9_restores_114 (by decide) ?_
                        refine r_iadd F dX9_restores_118 rfl ?_
                        refine r_ist3 F (by decide) rfl dX9_restores_119 rfl ?_
                        refine r_inc5 F (by decide) rfl dX9_restores_120 rfl ?_
                        refine r_goto F (tgt := 73) dX9_restores_123 (by decide) ?_
                        have h0 := ihr (c + 1) (by omega)
                        simp only [N_rr] at h0
                        first
                          | (rw [if_pos (Or.inl h_86)] at h0; rw [Int.add_assoc]; exact h0)
                          | (rw [if_pos (Or.inr (epk ▸ h_103))] at h0; rw [Int.add_assoc]; exact h0)
                          | (rw [if_neg (fun q => q.elim (fun q2 => q2 (by omega)) (fun q2 => h_103 (by rw [epk]; exact q2)))] at h0; rw [Int.add_zero]; exact h0)
              have h0 := lpB (u 3).toNat 0 (by omega)
              rw [show y + (N_rr a u 0 k 0).1 = y from Int.add_zero y] at h0
              exact h0
            ·
              exfalso; omega
          | succ d ihr =>
            intro c hc
            have hfr := N_rr_fr (a := a) (r := 1) hwS hkw c (by omega)
            have hxR := hfr.R hwR
            have hxk := hfr.ss.hB.mpr hkw
            have e3 := hfr.ss 3 (by omega)
            have e4 := hfr.ss 4 (by omega)
            have hpk := N_pk_in (r := 1) (i := (c : Int)) hxR.S hxk ⟨by omega, by omega⟩
            have epk : N_pk (N_rr a w 1 k c).2 1 k (c : Int) = N_pk w 1 k (c : Int) := hfr.ss.pk
            have hpr := hxR.K (j := (N_pk (N_rr a w 1 k c).2 1 k (c : Int)).toNat) (by omega) (by omega)
            refine r_iload F rfl dX9_restores_17 rfl ?_
            refine r_aload_n F rfl rfl dX9_restores_19 rfl ?_
            refine r_getR F f_X9_7 (hM.1) rfl dX9_restores_20 rfl ?_
            refine r_iconst F dX9_restores_23 rfl ?_
            refine r_iald F (ja_LM_1 hM) (by omega) (by omega) (by decide) dX9_restores_24 rfl ?_
            refine r_eqz (z := (((N_rr a w 1 k c).2) 4)) (by rw [ja_rw_s, show Int.toNat 4 = 4 from rfl]) ?_
            refine r_icmp_ge F (tgt := 70) ⟨by omega, by omega⟩ ⟨by omega, by omega⟩ dX9_restores_25 rfl (by decide) (fun h_25 => ?_) (fun h_25 => ?_)
            ·
              exfalso; omega
            ·
              refine r_iload_n F rfl rfl dX9_restores_28 rfl ?_
              refine r_iload_n F rfl rfl dX9_restores_29 rfl ?_
              refine r_if_ne F (tgt := 50) ⟨by omega, by omega⟩ dX9_restores_30 rfl (by decide) (fun h_30 => ?_) (fun h_30 => ?_)
              ·
                refine r_aload_n F rfl rfl dX9_restores_50 rfl ?_
                refine r_iconst F dX9_restores_51 rfl ?_
                refine r_iload_n F rfl rfl dX9_restores_52 rfl ?_
                refine r_iload F rfl dX9_restores_53 rfl ?_
                refine r_callV F GC (c_X9_restoresBy _ _ _ _ hM hxR ⟨by omega, by omega⟩ hxk ⟨by omega, by omega⟩) v_X9_70 rfl (hM.1) rfl (by decide) (by decide) (Nat.le_of_ble_eq_true rfl) rfl dX9_restores_55 rfl (fun v lay' mem' n' hp => ?_)
                obtain ⟨q1, q2, q3, q4⟩ := hp
                subst q1; subst q2; subst q3; subst q4
                refine r_goto F (tgt := 62) dX9_restores_58 (by decide) ?_
                refine r_iadd F dX9_restores_62 rfl ?_
                refine r_ist3 F (by decide) rfl dX9_restores_63 rfl ?_
                refine r_inc5 F (by decide) rfl dX9_restores_64 rfl ?_
                refine r_goto F (tgt := 17) dX9_restores_67 (by decide) ?_
                have h0 := ihr (c + 1) (by omega)
                simp only [N_rr] at h0
                first
                  | (rw [if_pos (Or.inl h_30)] at h0; rw [Int.add_assoc]; exact h0)
                  | (rw [if_pos (Or.inr (epk ▸ h_47))] at h0; rw [Int.add_assoc]; exact h0)
                  | (rw [if_neg (fun q => q.elim (fun q2 => q2 (by omega)) (fun q2 => h_47 (by rw [epk]; exact q2)))] at h0; rw [Int.add_zero]; exact h0)
              ·
                refine r_aload_n F rfl rfl dX9_restores_33 rfl ?_
                refine r_getR F f_X9_7 (hM.1) rfl dX9_restores_34 rfl ?_
                refine r_aload_n F rfl rfl dX9_restores_37 rfl ?_
                refine r_iconst F dX9_restores_38 rfl ?_
                refine r_iload_n F rfl rfl dX9_restores_39 rfl ?_
                refine r_iload F rfl dX9_restores_40 rfl ?_
                refine r_callV F GC (c_X9_packet _ _ _ _ hM ⟨by omega, by omega⟩ hxR.S hxk ⟨by omega, by omega⟩) v_X9_67 rfl (hM.1) rfl (by decide) (by decide) (Nat.le_of_ble_eq_true rfl) rfl dX9_restores_42 rfl (fun v lay' mem' n' hp => ?_)
                obtain ⟨q1, q2, q3, q4⟩ := hp
                subst q1; subst q2; subst q3; subst q4
                refine r_iald F (ja_LM_1 hM) (by omega) (by omega) (by decide) dX9_restores_45 rfl ?_
                refine r_eqz (z := (((N_rr a w 1 k c).2) (Int.toNat (N_pk (N_rr a w 1 k c).2 1 k (c : Int))))) (by rw [ja_rw_s]) ?_
                refine r_iconst F dX9_restores_46 rfl ?_
                refine r_icmp_ne F (tgt := 61) ⟨by omega, by omega⟩ ⟨by omega, by omega⟩ dX9_restores_47 rfl (by decide) (fun h_47 => ?_) (fun h_47 => ?_)
                ·
                  refine r_iconst F dX9_restores_61 rfl ?_
                  refine r_iadd F dX9_restores_62 rfl ?_
                  refine r_ist3 F (by decide) rfl dX9_restores_63 rfl ?_
                  refine r_inc5 F (by decide) rfl dX9_restores_64 rfl ?_
                  refine r_goto F (tgt := 17) dX9_restores_67 (by decide) ?_
                  have h0 := ihr (c + 1) (by omega)
                  simp only [N_rr] at h0
                  first
                    | (rw [if_pos (Or.inl h_30)] at h0; rw [Int.add_assoc]; exact h0)
                    | (rw [if_pos (Or.inr (epk ▸ h_47))] at h0; rw [Int.add_assoc]; exact h0)
                    | (rw [if_neg (fun q => q.elim (fun q2 => q2 (by omega)) (fun q2 => h_47 (by rw [epk]; exact q2)))] at h0; rw [Int.add_zero]; exact h0)
                ·
                  refine r_aload_n F rfl rfl dX9_restores_50 rfl ?_
                  refine r_iconst F dX9_restores_51 rfl ?_
                  refine r_iload_n F rfl rfl dX9_restores_52 rfl ?_
                  refine r_iload F rfl dX9_restores_53 rfl ?_
                  refine r_callV F GC (c_X9_restoresBy _ _ _ _ hM hxR ⟨by omega, by omega⟩ hxk ⟨by omega, by omega⟩) v_X9_70 rfl (hM.1) rfl (by decide) (by decide) (Nat.le_of_ble_eq_true rfl) rfl dX9_restores_55 rfl (fun v lay' mem' n' hp => ?_)
                  obtain ⟨q1, q2, q3, q4⟩ := hp
                  subst q1; subst q2; subst q3; subst q4
                  refine r_goto F (tgt := 62) dX9_restores_58 (by decide) ?_
                  refine r_iadd F dX9_restores_62 rfl ?_
                  refine r_ist3 F (by decide) rfl dX9_restores_63 rfl ?_
                  refine r_inc5 F (by decide) rfl dX9_restores_64 rfl ?_
                  refine r_goto F (tgt := 17) dX9_restores_67 (by decide) ?_
                  have h0 := ihr (c + 1) (by omega)
                  simp only [N_rr] at h0
                  first
                    | (rw [if_pos (Or.inl h_30)] at h0; rw [Int.add_assoc]; exact h0)
                    | (rw [if_pos (Or.inr (epk ▸ h_47))] at h0; rw [Int.add_assoc]; exact h0)
                    | (rw [if_neg (fun q => q.elim (fun q2 => q2 (by omega)) (fun q2 => h_47 (by rw [epk]; exact q2)))] at h0; rw [Int.add_zero]; exact h0)
        have h0 := lpA (w 4).toNat 0 (by omega)
        rw [show z + (N_rr a w 1 k 0).1 = z from Int.add_zero z] at h0
        exact h0
    refine r_msk [true, true, true, true, false, false] rfl ?_
    have hu0 : N_U v k ≤ (N_ar v).toNat := N_un_le _
    have ha0 := N_ar_in hR.S
    exact loop 40 0 v hR N_ss.rf (by omega) ⟨by omega, by omega⟩ rfl
end
section
-- arrivals, the window, the schedule
def N_be (v : Nat → Int) : Nat → Int := if v 10 < 0 then ja_rs v 10 (v 9 + v 5) else v
def N_sh (v : Nat → Int) : Nat → (Nat → Int)
  | 0 => v
  | j + 1 => ja_rs (N_sh v j) (2372 + j) (v (2372 + j + 1))
def N_s0 (v : Nat → Int) : Nat → Int := if v 24 = 16 then ja_rs (N_sh v 15) 24 15 else v
def N_se (v : Nat → Int) (t : Int) : Nat → Int := ja_rs (ja_rs (N_s0 v) (2372 + N_s0 v 24).toNat t) 24 (N_s0 v 24 + 1)
def N_a1 (u : Nat → Int) (x : Int) : Nat → Int := ja_rs (ja_rs u (30 + x).toNat 2) 17 (u 17 + if x < u 11 then 1 else 0)
def N_aw (v : Nat → Int) (x : Int) : Nat → Int := N_se (N_a1 (N_be v) x) (N_be v 9 - x * N_be v 0)
def N_av (v : Nat → Int) (x : Int) : Nat → Int := if N_kn v x then ja_rs v 18 (v 18 + 1) else (N_rs 0 (x / N_ar v) 40 0 (N_aw v x)).2
def N_an (v : Nat → Int) (x : Int) : Int := if N_kn v x then 0 else 1 + (N_rs 0 (x / N_ar v) 40 0 (N_aw v x)).1
def N_qw (v : Nat → Int) (r k i : Int) : Nat → Int := ja_rs (N_be v) (N_pk v r k i).toNat 1
def N_qv (v : Nat → Int) (r k i : Int) : Nat → Int := if v (N_pk v r k i).toNat = 1 then ja_rs v 18 (v 18 + 1) else (N_rs 0 k 40 0 (N_qw v r k i)).2
def N_qn (v : Nat → Int) (r k i : Int) : Int := if v (N_pk v r k i).toNat = 1 then 0 else (N_rs 0 k 40 0 (N_qw v r k i)).1
def N_c4 (w : Nat → Int) (d s : Int) : Nat → (Nat → Int)
  | 0 => w
  | j + 1 => ja_rs (N_c4 w d s j) (d + j).toNat (N_c4 w d s j (s + j).toNat)
def N_ab (v : Nat → Int) : Nat → Int × (Nat → Int)
  | 0 => (0, v)
  | i + 1 => if (N_ab v i).2 (2388 + 4 * (i : Int) + 3).toNat = (N_ab v i).2 9 then ((N_ab v i).1, if (N_ab v i).2 (2388 + 4 * (i : Int)).toNat = 0 then N_av (N_ab v i).2 ((N_ab v i).2 (2388 + 4 * (i : Int) + 1).toNat) else N_qv (N_ab v i).2 (if (N_ab v i).2 (2388 + 4 * (i : Int)).toNat = 1 then 1 else 0) ((N_ab v i).2 (2388 + 4 * (i : Int) + 1).toNat) ((N_ab v i).2 (2388 + 4 * (i : Int) + 2).toNat)) else ((N_ab v i).1 + 1, N_c4 (N_ab v i).2 (2388 + 4 * (N_ab v i).1) (2388 + 4 * (i : Int)) 4)
def N_as (v : Nat → Int) : Nat → Int := ja_rs (N_ab v (v 25).toNat).2 25 (N_ab v (v 25).toNat).1
-- what holds of a state
abbrev N_pe (v : Nat → Int) (a b c : Int) : Prop := (0 ≤ a ∧ a ≤ 2) ∧ (a = 0 → b ≤ 999) ∧ (¬ a = 0 → N_hP v (if a = 1 then 1 else 0) b c)
def N_P (v : Nat → Int) : Prop := ∀ j : Int, 0 ≤ j → j < v 25 → N_pe v (v (2388 + 4 * j).toNat) (v (2388 + 4 * j + 1).toNat) (v (2388 + 4 * j + 2).toNat)
def N_O (v : Nat → Int) (t : Int) : Prop := N_R v ∧ (v 9 ≤ t ∧ v 10 ≤ t + 200 ∧ v 12 ≤ v 9 ∧ v 13 ≤ v 11 ∧ v 14 ≤ v 11 ∧ v 21 ≤ v 11 ∧ v 23 ≤ v 22) ∧ N_P v
/-- the places of which more is said than a range -/
def N_k (v w : Nat → Int) : Prop := ∀ j, (j < 15 ∨ j = 21 ∨ j = 22 ∨ j = 23 ∨ j = 25 ∨ 2388 ≤ j) → w j = v j
theorem N_k.rf {v : Nat → Int} : N_k v v := fun _ _ => rfl
theorem N_k.tr {u v w : Nat → Int} (h : N_k u v) (h2 : N_k v w) : N_k u w := fun j hj => (h2 j hj).trans (h j hj)
theorem N_k.rs {v w : Nat → Int} {i : Nat} {z : Int} (h : N_k v w) (hi : 15 ≤ i ∧ i ≠ 21 ∧ i ≠ 22 ∧ i ≠ 23 ∧ i ≠ 25 ∧ i < 2388) : N_k v (ja_rs w i z) := fun j hj => by
  rw [ja_rs_n (by omega)]
  exact h j hj
theorem N_k.ss {v w : Nat → Int} (h : N_k v w) : N_ss v w := fun j hj => h j (by omega)
theorem N_fr.k {v w : Nat → Int} (h : N_fr v w) : N_k v w := fun j hj => h.1 j (by omega)
theorem N_P.c {v w : Nat → Int} (hP : N_P v) (hs : N_ss v w) (h25 : w 25 = v 25) (hp : ∀ j, 2388 ≤ j → w j = v j) : N_P w := by
  intro j h0 hj
  rw [h25] at hj
  have h := hP j h0 hj
  rw [hp _ (by omega), hp _ (by omega), hp _ (by omega)]
  exact ⟨h.1, h.2.1, fun q => hs.hP.mpr (h.2.2 q)⟩
theorem N_O.kp {v w : Nat → Int} {t : Int} (h : N_O v t) (hR : N_R w) (hk : N_k v w) : N_O w t := by
  obtain ⟨-, h1, h2⟩ := h
  refine ⟨hR, ?_, h2.c hk.ss (hk 25 (by omega)) (fun j hj => hk j (by omega))⟩
  rw [hk 9 (by omega), hk 10 (by omega), hk 11 (by omega), hk 12 (by omega), hk 13 (by omega), hk 14 (by omega), hk 21 (by omega), hk 22 (by omega), hk 23 (by omega)]
  exact h1
theorem N_be_n {v : Nat → Int} {j : Nat} (h : j ≠ 10) : N_be v j = v j := by
  unfold N_be
  split
  · exact ja_rs_n h
  · rfl
theorem N_be_O {v : Nat → Int} {t : Int} (h : N_O v t) (ht : t ≤ 900000) : N_O (N_be v) t := by
  have h0 := h
  obtain ⟨hR, h1, h2⟩ := h
  have hS := hR.S
  have hC := hR.C
  unfold N_be
  split
  · have hR1 : N_R (ja_rs v 10 (v 9 + v 5)) := hR.rs (show -1 ≤ v 9 + v 5 ∧ v 9 + v 5 ≤ 900300 by omega)
    refine ⟨hR1, ?_, h2.c (N_ss.rf.rs (by omega)) (ja_rs_n (by omega)) (fun j hj => ja_rs_n (by omega))⟩
    rw [ja_rs_s, ja_rs_n (show (9 : Nat) ≠ 10 by omega), ja_rs_n (show (11 : Nat) ≠ 10 by omega), ja_rs_n (show (12 : Nat) ≠ 10 by omega), ja_rs_n (show (13 : Nat) ≠ 10 by omega), ja_rs_n (show (14 : Nat) ≠ 10 by omega), ja_rs_n (show (21 : Nat) ≠ 10 by omega), ja_rs_n (show (22 : Nat) ≠ 10 by omega), ja_rs_n (show (23 : Nat) ≠ 10 by omega)]
    omega
  · exact h0
theorem N_sh_n {v : Nat → Int} {q : Nat} : ∀ j : Nat, (q < 2372 ∨ 2372 + j ≤ q) → N_sh v j q = v q
  | 0, _ => rfl
  | j + 1, h => by
    simp only [N_sh]
    rw [ja_rs_n (by omega)]
    exact N_sh_n j (by omega)
theorem N_sh_R {v : Nat → Int} (hR : N_R v) : ∀ j : Nat, j ≤ 15 → N_R (N_sh v j)
  | 0, _ => hR
  | j + 1, hj => (N_sh_R hR j (by omega)).rs ((N_inW (by omega) (by omega)).mpr (hR.W (by omega) (by omega)))
theorem N_s0_R {v : Nat → Int} (hR : N_R v) : N_R (N_s0 v) ∧ (0 ≤ N_s0 v 24 ∧ N_s0 v 24 ≤ 15) ∧ N_k v (N_s0 v) := by
  have hC := hR.C
  unfold N_s0
  split
  · have h1 : N_R (ja_rs (N_sh v 15) 24 15) := (N_sh_R hR 15 (by omega)).rs (show (0 : Int) ≤ 15 ∧ (15 : Int) ≤ 16 by omega)
    refine ⟨h1, by rw [ja_rs_s]; omega, fun j hj => ?_⟩
    rw [ja_rs_n (by omega)]
    exact N_sh_n 15 (by omega)
  · exact ⟨hR, by omega, N_k.rf⟩
theorem N_se_R {v : Nat → Int} {t : Int} (hR : N_R v) (ht : -1000000 ≤ t ∧ t ≤ 1000000) : N_R (N_se v t) ∧ N_k v (N_se v t) := by
  obtain ⟨h1, h2, h3⟩ := N_s0_R hR
  unfold N_se
  exact ⟨(h1.rs ((N_inW (by omega) (by omega)).mpr ht)).rs (show 0 ≤ N_s0 v 24 + 1 ∧ N_s0 v 24 + 1 ≤ 16 by omega), (h3.rs ⟨by omega, by omega, by omega, by omega, by omega, by omega⟩).rs ⟨by omega, by omega, by omega, by omega, by omega, by omega⟩⟩
theorem N_a1_R {u : Nat → Int} {x : Int} (hR : N_R u) (hx : 0 ≤ x ∧ x ≤ 999) : N_R (N_a1 u x) ∧ N_k u (N_a1 u x) := by
  unfold N_a1
  exact ⟨(hR.rs ((N_inF (by omega) (by omega)).mpr ⟨by omega, by omega⟩)).rs trivial, (N_k.rf.rs ⟨by omega, by omega, by omega, by omega, by omega, by omega⟩).rs ⟨by omega, by omega, by omega, by omega, by omega, by omega⟩⟩
theorem N_fxs {v : Nat → Int} {x : Int} (hS : N_S v) (hx : 0 ≤ x ∧ x ≤ 1000) : 0 ≤ x * v 0 ∧ x * v 0 ≤ 16000 := by
  have := ja_mulb hx.1 hx.2 (by have := hS.1; omega : 0 ≤ v 0) hS.1.2
  omega
theorem N_aw_O {v : Nat → Int} {t x : Int} (h : N_O v t) (ht : t ≤ 900000) (hx : 0 ≤ x ∧ x ≤ 999) : N_O (N_aw v x) t := by
  have hb := N_be_O h ht
  obtain ⟨a1, a2⟩ := N_a1_R hb.1 hx
  have hf := N_fxs (x := x) hb.1.S ⟨by omega, by omega⟩
  have hc := hb.1.C
  obtain ⟨s1, s2⟩ := N_se_R (t := N_be v 9 - x * N_be v 0) a1 ⟨by omega, by omega⟩
  exact hb.kp s1 (a2.tr s2)
theorem N_be_ss {v : Nat → Int} : N_ss v (N_be v) := fun j hj => N_be_n (by omega)
theorem N_aw_ss {v : Nat → Int} {t x : Int} (h : N_O v t) (ht : t ≤ 900000) (hx : 0 ≤ x ∧ x ≤ 999) : N_ss v (N_aw v x) := by
  have hb := N_be_O h ht
  obtain ⟨a1, a2⟩ := N_a1_R hb.1 hx
  have hf := N_fxs (x := x) hb.1.S ⟨by omega, by omega⟩
  have hc := hb.1.C
  obtain ⟨s1, s2⟩ := N_se_R (t := N_be v 9 - x * N_be v 0) a1 ⟨by omega, by omega⟩
  exact N_be_ss.tr (a2.tr s2).ss
theorem N_rs_O {v : Nat → Int} {t k : Int} (h : N_O v t) (hk : N_hB v k) {a : Int} : N_O (N_rs a k 40 0 v).2 t := by
  have hf := N_rs_fr (a := a) 40 0 v h.1.S hk
  exact h.kp (hf.R h.1) hf.k
theorem N_db_O {v : Nat → Int} {t : Int} (h : N_O v t) : N_O (ja_rs v 18 (v 18 + 1)) t := h.kp (h.1.rs trivial) (N_k.rf.rs ⟨by omega, by omega, by omega, by omega, by omega, by omega⟩)
/-- what an arrival leaves: all but the start, and what N_k doesn't name -/
def N_kb (v w : Nat → Int) : Prop := ∀ j, j ≠ 10 → (j < 15 ∨ j = 21 ∨ j = 22 ∨ j = 23 ∨ j = 25 ∨ 2388 ≤ j) → w j = v j
theorem N_k.b {v w : Nat → Int} (h : N_k v w) : N_kb v w := fun j _ hj => h j hj
theorem N_kb.tr {u v w : Nat → Int} (h : N_kb u v) (h2 : N_kb v w) : N_kb u w := fun j h10 hj => (h2 j h10 hj).trans (h j h10 hj)
theorem N_be_kb {v : Nat → Int} : N_kb v (N_be v) := fun j h _ => N_be_n h
theorem N_av_O {v : Nat → Int} {t x : Int} (h : N_O v t) (ht : t ≤ 900000) (hx : 0 ≤ x ∧ x ≤ 999) : N_O (N_av v x) t ∧ N_kb v (N_av v x) := by
  have hw := N_aw_O h ht hx
  have hs := N_aw_ss h ht hx
  have hB : N_hB (N_aw v x) (x / N_ar v) := hs.hB.mpr (N_blk h.1.S hx)
  unfold N_av
  split
  · exact ⟨N_db_O h, (N_k.rf.rs ⟨by omega, by omega, by omega, by omega, by omega, by omega⟩).b⟩
  · refine ⟨N_rs_O hw hB, ?_⟩
    have hb := N_be_O h ht
    obtain ⟨a1, a2⟩ := N_a1_R hb.1 hx
    have hf := N_fxs (x := x) hb.1.S ⟨by omega, by omega⟩
    have hc := hb.1.C
    obtain ⟨s1, s2⟩ := N_se_R (t := N_be v 9 - x * N_be v 0) a1 ⟨by omega, by omega⟩
    exact N_be_kb.tr ((a2.tr s2).tr (N_rs_fr (a := 0) 40 0 (N_aw v x) hw.1.S hB).k).b
theorem N_qw_O {v : Nat → Int} {t r k i : Int} (h : N_O v t) (ht : t ≤ 900000) (hk : N_hB v k) (hi : 0 ≤ i ∧ i ≤ 6) : N_O (N_qw v r k i) t ∧ N_kb v (N_qw v r k i) ∧ N_ss v (N_qw v r k i) := by
  have hb := N_be_O h ht
  have hp := N_pk_in (r := r) h.1.S hk hi
  unfold N_qw
  have hkk : N_k (N_be v) (ja_rs (N_be v) (N_pk v r k i).toNat 1) := N_k.rf.rs ⟨by omega, by omega, by omega, by omega, by omega, by omega⟩
  exact ⟨hb.kp (hb.1.rs ((N_inK (by omega) (by omega)).mpr ⟨by omega, by omega⟩)) hkk, N_be_kb.tr hkk.b, N_be_ss.tr hkk.ss⟩
theorem N_qv_O {v : Nat → Int} {t r k i : Int} (h : N_O v t) (ht : t ≤ 900000) (hk : N_hB v k) (hi : 0 ≤ i ∧ i ≤ 6) : N_O (N_qv v r k i) t ∧ N_kb v (N_qv v r k i) := by
  obtain ⟨hw, hwk, hs⟩ := N_qw_O (r := r) h ht hk hi
  have hB : N_hB (N_qw v r k i) k := hs.hB.mpr hk
  unfold N_qv
  split
  · exact ⟨N_db_O h, (N_k.rf.rs ⟨by omega, by omega, by omega, by omega, by omega, by omega⟩).b⟩
  · exact ⟨N_rs_O hw hB, hwk.tr (N_rs_fr (a := 0) 40 0 (N_qw v r k i) hw.1.S hB).k.b⟩
theorem N_hP_6 {v : Nat → Int} {r k i : Int} (hS : N_S v) (h : N_hP v r k i) : 0 ≤ i ∧ i ≤ 6 := by
  obtain ⟨-, -, -, h3, h4, -⟩ := hS
  obtain ⟨-, h1, h2⟩ := h
  split at h2 <;> omega
theorem N_c4_n {w : Nat → Int} {d s : Int} {q : Nat} : ∀ j : Nat, (∀ c : Nat, c < j → q ≠ (d + c).toNat) → N_c4 w d s j q = w q
  | 0, _ => rfl
  | j + 1, h => by
    simp only [N_c4]
    rw [ja_rs_n (h j (by omega))]
    exact N_c4_n j (fun c hc => h c (by omega))
theorem N_c4_s {w : Nat → Int} {d s : Int} (hd : 0 ≤ d) (hds : d = s ∨ d + 4 ≤ s) : ∀ j : Nat, j ≤ 4 → ∀ c : Nat, c < j → N_c4 w d s j (d + c).toNat = w (s + c).toNat
  | 0, _, c, hc => by omega
  | j + 1, hj, c, hc => by
    simp only [N_c4]
    by_cases hcj : c = j
    · subst hcj
      rw [ja_rs_s]
      exact N_c4_n c (fun e he => by omega)
    · rw [ja_rs_n (by omega)]
      exact N_c4_s hd hds j (by omega) c (by omega)
theorem N_c4_R {w : Nat → Int} {d s : Int} (hR : N_R w) (hd : 2388 ≤ d ∧ d ≤ 2480) (hs : 2388 ≤ s ∧ s ≤ 2480) : ∀ j : Nat, j ≤ 4 → N_R (N_c4 w d s j)
  | 0, _ => hR
  | j + 1, hj => by
    have ih := N_c4_R hR hd hs j (by omega)
    exact ih.rs ((N_inP (by omega)).mpr (ih.P (by omega) (by omega)))
theorem N_ab_O {v : Nat → Int} {t : Int} (h : N_O v t) (ht : t ≤ 900000) : ∀ i : Nat, (i : Int) ≤ v 25 → N_O (N_ab v i).2 t ∧ (0 ≤ (N_ab v i).1 ∧ (N_ab v i).1 ≤ i) ∧ (∀ j, j ≠ 10 → (j < 15 ∨ j = 21 ∨ j = 22 ∨ j = 23 ∨ j = 25) → (N_ab v i).2 j = v j)
  | 0, _ => ⟨h, ⟨by simp [N_ab], by simp [N_ab]⟩, fun _ _ _ => rfl⟩
  | i + 1, hi => by
    obtain ⟨hO, ⟨l0, l1⟩, hk⟩ := N_ab_O h ht i (by omega)
    have hc := hO.1.C
    have h25 := hk 25 (by omega) (by omega)
    have hpe := hO.2.2 (i : Int) (by omega) (by omega)
    have hp1 := hO.1.P (j := (2388 + 4 * (i : Int) + 1).toNat) (by omega) (by omega)
    simp only [N_ab]
    generalize (N_ab v i).2 = w at *
    generalize (N_ab v i).1 = l at *
    split
    · dsimp only
      split
      · rename_i hz
        obtain ⟨o1, o2⟩ := N_av_O hO ht ⟨hp1.1, hpe.2.1 hz⟩
        exact ⟨o1, ⟨by omega, by omega⟩, fun j a b => (o2 j a (by omega)).trans (hk j a b)⟩
      · rename_i hz
        have hh := hpe.2.2 hz
        obtain ⟨o1, o2⟩ := N_qv_O (r := if w (2388 + 4 * (i : Int)).toNat = 1 then 1 else 0) hO ht hh.1 (N_hP_6 hO.1.S hh)
        exact ⟨o1, ⟨by omega, by omega⟩, fun j a b => (o2 j a (by omega)).trans (hk j a b)⟩
    · dsimp only
      have hds : (2388 + 4 * l : Int) = 2388 + 4 * (i : Int) ∨ (2388 + 4 * l : Int) + 4 ≤ 2388 + 4 * (i : Int) := by omega
      have hnn : ∀ q : Nat, (q < 2388 ∨ (2388 + 4 * l + 4 : Int) ≤ (q : Int)) → N_c4 w (2388 + 4 * l) (2388 + 4 * (i : Int)) 4 q = w q := fun q hq => N_c4_n 4 (fun c hc => by omega)
      have hlow : ∀ q : Nat, (q : Int) < 2388 + 4 * l → N_c4 w (2388 + 4 * l) (2388 + 4 * (i : Int)) 4 q = w q := fun q hq => N_c4_n 4 (fun c hc => by omega)
      have hRR := N_c4_R hO.1 (d := 2388 + 4 * l) (s := 2388 + 4 * (i : Int)) ⟨by omega, by omega⟩ ⟨by omega, by omega⟩ 4 (by omega)
      have hcs : ∀ c : Nat, c < 4 → N_c4 w (2388 + 4 * l) (2388 + 4 * (i : Int)) 4 (2388 + 4 * l + c).toNat = w (2388 + 4 * (i : Int) + c).toNat := N_c4_s (by omega) hds 4 (by omega)
      have hss : N_ss w (N_c4 w (2388 + 4 * l) (2388 + 4 * (i : Int)) 4) := fun q hq => hnn q (by omega)
      refine ⟨⟨hRR, ?_, ?_⟩, ⟨by omega, by omega⟩, fun j a b => (hnn j (by omega)).trans (hk j a b)⟩
      · rw [hnn 9 (by omega), hnn 10 (by omega), hnn 11 (by omega), hnn 12 (by omega), hnn 13 (by omega), hnn 14 (by omega), hnn 21 (by omega), hnn 22 (by omega), hnn 23 (by omega)]
        exact hO.2.1
      · intro j j0 jl
        rw [hnn 25 (by omega)] at jl
        by_cases hjl : j = l
        · subst hjl
          have e0 := hcs 0 (by omega)
          have e1 := hcs 1 (by omega)
          have e2 := hcs 2 (by omega)
          rw [show (2388 + 4 * j + ((0 : Nat) : Int)) = 2388 + 4 * j by omega, show (2388 + 4 * (i : Int) + ((0 : Nat) : Int)) = 2388 + 4 * (i : Int) by omega] at e0
          rw [show (2388 + 4 * j + ((1 : Nat) : Int)) = 2388 + 4 * j + 1 by omega, show (2388 + 4 * (i : Int) + ((1 : Nat) : Int)) = 2388 + 4 * (i : Int) + 1 by omega] at e1
          rw [show (2388 + 4 * j + ((2 : Nat) : Int)) = 2388 + 4 * j + 2 by omega, show (2388 + 4 * (i : Int) + ((2 : Nat) : Int)) = 2388 + 4 * (i : Int) + 2 by omega] at e2
          rw [e0, e1, e2]
          exact ⟨hpe.1, hpe.2.1, fun q => hss.hP.mpr (hpe.2.2 q)⟩
        · have hj := hO.2.2 j j0 jl
          have hq : ∀ c : Int, 0 ≤ c → c < 4 → N_c4 w (2388 + 4 * l) (2388 + 4 * (i : Int)) 4 (2388 + 4 * j + c).toNat = w (2388 + 4 * j + c).toNat := fun c c0 c4 => by
            rcases (show j < l ∨ l < j by omega) with hh | hh
            · exact hlow _ (by omega)
            · exact hnn _ (by omega)
          have e0 := hq 0 (by omega) (by omega)
          rw [show (2388 + 4 * j + 0 : Int) = 2388 + 4 * j by omega] at e0
          rw [e0, hq 1 (by omega) (by omega), hq 2 (by omega) (by omega)]
          exact ⟨hj.1, hj.2.1, fun q => hss.hP.mpr (hj.2.2 q)⟩
theorem N_as_O {v : Nat → Int} {t : Int} (h : N_O v t) (ht : t ≤ 900000) : N_O (N_as v) t ∧ (∀ j, j ≠ 10 → (j < 15 ∨ j = 21 ∨ j = 22 ∨ j = 23) → N_as v j = v j) := by
  have hc := h.1.C
  obtain ⟨hO, ⟨l0, l1⟩, hk⟩ := N_ab_O h ht (v 25).toNat (by omega)
  have h25 := hk 25 (by omega) (by omega)
  unfold N_as
  generalize (N_ab v (v 25).toNat).2 = w at *
  generalize (N_ab v (v 25).toNat).1 = l at *
  refine ⟨⟨hO.1.rs (show 0 ≤ l ∧ l ≤ 24 by omega), ?_, ?_⟩, fun j a b => by rw [ja_rs_n (by omega)]; exact hk j a (by omega)⟩
  · rw [ja_rs_n (show (9 : Nat) ≠ 25 by omega), ja_rs_n (show (10 : Nat) ≠ 25 by omega), ja_rs_n (show (11 : Nat) ≠ 25 by omega), ja_rs_n (show (12 : Nat) ≠ 25 by omega), ja_rs_n (show (13 : Nat) ≠ 25 by omega), ja_rs_n (show (14 : Nat) ≠ 25 by omega), ja_rs_n (show (21 : Nat) ≠ 25 by omega), ja_rs_n (show (22 : Nat) ≠ 25 by omega), ja_rs_n (show (23 : Nat) ≠ 25 by omega)]
    exact hO.2.1
  · intro j j0 jl
    rw [ja_rs_s] at jl
    have hj := hO.2.2 j j0 (by omega)
    rw [ja_rs_n (by omega), ja_rs_n (by omega), ja_rs_n (by omega)]
    exact ⟨hj.1, hj.2.1, fun q => (N_ss.rf.rs (by omega)).hP.mpr (hj.2.2 q)⟩
end
section
-- sorting; the target; the level
theorem T_ins_c {v : Int} : ∀ (h : Nat) (f g : Nat → Int), (∀ j, j < h → f j = g j) → ∀ j, j ≤ h → T_ins f v h j = T_ins g v h j
  | 0, f, g, _, j, hj => by
    simp only [T_ins, ja_rs]
    rw [if_pos (by omega), if_pos (by omega)]
  | h + 1, f, g, hfg, j, hj => by
    simp only [T_ins]
    rw [hfg h (by omega)]
    split
    · by_cases hjh : j = h + 1
      · subst hjh
        have k : ∀ (e : Nat) (u : Nat → Int), e < h + 1 → T_ins u v e (h + 1) = u (h + 1) := by
          intro e
          induction e with
          | zero =>
            intro u _
            simp only [T_ins, ja_rs]
            rw [if_neg (by omega)]
          | succ e ih =>
            intro u he
            simp only [T_ins]
            split
            · rw [ih _ (by omega), ja_rs_n (by omega)]
            · rw [ja_rs_n (by omega)]
        rw [k h _ (by omega), k h _ (by omega), ja_rs_s, ja_rs_s]
      · exact T_ins_c h _ _ (fun q hq => by rw [ja_rs_n (by omega), ja_rs_n (by omega)]; exact hfg q (by omega)) j (by omega)
    · by_cases hjh : j = h + 1
      · subst hjh
        rw [ja_rs_s, ja_rs_s]
      · rw [ja_rs_n hjh, ja_rs_n hjh]
        exact hfg j (by omega)
theorem T_srt_c {f g g' : Nat → Int} : ∀ (k j : Nat), j < k → T_srt f g k j = T_srt f g' k j
  | 0, j, hj => by omega
  | k + 1, j, hj => by
    simp only [T_srt]
    exact T_ins_c k _ _ (fun q hq => T_srt_c k q hq) j (by omega)
/-- the transits in ascending order -/
def N_so (v : Nat → Int) (k : Nat) : Nat → Int := T_srt (fun i => v (2372 + (i : Int)).toNat) (fun _ => 0) k
theorem N_so_in {v : Nat → Int} (hR : N_R v) : ∀ (k j : Nat), k ≤ 16 → ja_sm (N_so v k j)
  | 0, j, _ => by
    simp only [N_so, T_srt]
    exact ⟨by omega, by omega⟩
  | k + 1, j, hk => by
    have hw := hR.W (j := (2372 + (k : Int)).toNat) (by omega) (by omega)
    exact T_ins_in (P := ja_sm) hw k _ (fun q => N_so_in hR k q (by omega)) j
def N_tg (v : Nat → Int) : Int := if v 24 = 0 then v 7 else N_so v (v 24).toNat ((v 6 * v 24 + 99) / 100 - 1).toNat - N_so v (v 24).toNat 0 + v 7
theorem N_tg_in {v : Nat → Int} (hR : N_R v) : -2000000 ≤ N_tg v ∧ N_tg v ≤ 2000100 := by
  have hS := hR.S
  have hC := hR.C
  have h1 := N_so_in hR (v 24).toNat ((v 6 * v 24 + 99) / 100 - 1).toNat (by omega)
  have h2 := N_so_in hR (v 24).toNat 0 (by omega)
  obtain ⟨a1, a2⟩ := h1
  obtain ⟨b1, b2⟩ := h2
  unfold N_tg
  split <;> omega
def N_fo (v : Nat → Int) : Int → Nat → Int
  | x, 0 => x
  | x, k + 1 => if N_kn v x then N_fo v (x + 1) k else x
theorem N_fo_in {v : Nat → Int} : ∀ (k : Nat) (x : Int), x ≤ N_fo v x k ∧ N_fo v x k ≤ x + k
  | 0, x => by simp [N_fo]
  | k + 1, x => by
    have h := @N_fo_in v k (x + 1)
    simp only [N_fo]
    split <;> omega
def N_lv (v : Nat → Int) (x : Int) : Int := v 0 * (if x < N_fo v x (1000 - x).toNat then N_fo v x (1000 - x).toNat - x else 0)
theorem N_lv_in {v : Nat → Int} {x : Int} (hS : N_S v) (hx : 0 ≤ x ∧ x ≤ 1000) : 0 ≤ N_lv v x ∧ N_lv v x ≤ 16000 := by
  have h := @N_fo_in v (1000 - x).toNat x
  have h1 : 0 ≤ (if x < N_fo v x (1000 - x).toNat then N_fo v x (1000 - x).toNat - x else 0) ∧ (if x < N_fo v x (1000 - x).toNat then N_fo v x (1000 - x).toNat - x else 0) ≤ 1000 := by split <;> omega
  have := ja_mulb (by have := hS.1; omega : 0 ≤ v 0) hS.1.2 h1.1 h1.2
  unfold N_lv
  omega
end
section
-- samples
/-- only the sorted row may have changed -/
def N_g6 (m : Nat) (G G' : ja_M) : Prop := ∀ q, q ≠ m + 6 → G' q = G q
theorem N_g6.ge {m : Nat} {G G' : ja_M} (h : N_g6 m G G') : N_ge m G G' := fun q h6 _ => h q h6
def N_gi (w : Nat → Int) (s : Int) : Nat → Int := ja_rs (ja_rs w (2342 + w 22).toNat s) 22 (w 22 + 1)
def N_gs (w : Nat → Int) (h : Nat → Int) : Nat → (Nat → Int)
  | 0 => w
  | k + 1 => N_gi (N_gs w h k) (h k)
theorem N_gs_s {w h : Nat → Int} {k : Nat} : N_gs w h (k + 1) = N_gi (N_gs w h k) (h k) := rfl
/-- samples were given: the waiting ones and their number alone are new -/
def N_q (v w : Nat → Int) : Prop := ∀ j, j ≠ 22 → (j < 2342 ∨ 2372 ≤ j) → w j = v j
theorem N_q.rf {v : Nat → Int} : N_q v v := fun _ _ _ => rfl
theorem N_q.tr {u v w : Nat → Int} (h : N_q u v) (h2 : N_q v w) : N_q u w := fun j a b => (h2 j a b).trans (h j a b)
theorem N_q.ss {v w : Nat → Int} (h : N_q v w) : N_ss v w := fun j hj => h j (by omega) (by omega)
theorem N_gi_R {w : Nat → Int} {s : Int} (hR : N_R w) (hs : ja_sp s) (h22 : w 22 ≤ 23) : N_R (N_gi w s) ∧ N_gi w s 22 = w 22 + 1 ∧ N_q w (N_gi w s) := by
  have hC := hR.C
  unfold N_gi
  refine ⟨(hR.rs ((N_inG (by omega) (by omega)).mpr hs)).rs (show 0 ≤ w 22 + 1 ∧ w 22 + 1 ≤ 24 by omega), ja_rs_s _ _ _, fun j a b => ?_⟩
  rw [ja_rs_n a, ja_rs_n (by omega)]
theorem N_gs_R {w h : Nat → Int} (hR : N_R w) : ∀ k : Nat, (∀ j, j < k → ja_sp (h j)) → w 22 + k ≤ 24 → N_R (N_gs w h k) ∧ N_gs w h k 22 = w 22 + k ∧ N_q w (N_gs w h k)
  | 0, _, _ => ⟨hR, by simp [N_gs], N_q.rf⟩
  | k + 1, hs, hk => by
    obtain ⟨i1, i2, i3⟩ := N_gs_R hR k (fun j hj => hs j (by omega)) (by omega)
    obtain ⟨g1, g2, g3⟩ := N_gi_R i1 (hs k (by omega)) (by omega)
    exact ⟨g1, by show N_gi (N_gs w h k) (h k) 22 = _; rw [g2, i2]; omega, i3.tr g3⟩
def N_wx (v : Nat → Int) (x : Int) : Nat → Int := fun j => N_wv v x j
theorem N_wx_in {v : Nat → Int} {x : Int} (j : Nat) : ja_sp (N_wx v x j) := N_wv_in
abbrev N_lf (v : Nat → Int) (x : Int) : Int := (P_lg (N_wx v x) 1 (v 0 / 2 - 2).toNat).1
abbrev N_sht (v : Nat → Int) (x : Int) : Prop := v 8 = 1 ∧ N_tg v + v 0 < N_lv v (x + 1)
abbrev N_lng (v : Nat → Int) (x : Int) : Prop := v 8 = 1 ∧ N_lv v (x + 1) + v 0 < N_tg v
def N_f0 (v : Nat → Int) (x : Int) : Nat → Int := ja_rs (ja_rs v 16 (v 16 + ja_b (N_sht v x))) 15 (v 15 + ja_b (N_lng v x))
def N_m1 (v : Nat → Int) (x : Int) : Nat → Int := fun i => P_mx (N_wx v x i) (N_wx v x (i + (N_lf v x).toNat)) (N_lf v x) i
def N_m2 (v : Nat → Int) (x : Int) : Nat → Int := fun i => P_mx (N_wx v x (i + (N_lf v x).toNat)) (N_wx v x i) (N_lf v x) i
def N_fi (v : Nat → Int) (x : Int) : Nat → Int :=
  if N_sht v x then N_gs (N_gs (N_f0 v x) (N_m1 v x) (N_lf v x).toNat) (fun i => N_wx v x ((2 * N_lf v x).toNat + i)) (v 0 - 2 * N_lf v x).toNat
  else if N_lng v x then N_gs (N_gs (N_gs (N_f0 v x) (N_wx v x) (N_lf v x).toNat) (N_m2 v x) (N_lf v x).toNat) (fun i => N_wx v x ((N_lf v x).toNat + i)) (v 0 - N_lf v x).toNat
  else N_gs (N_gs (N_f0 v x) (N_wx v x) (N_lf v x).toNat) (fun i => N_wx v x ((N_lf v x).toNat + i)) (v 0 - N_lf v x).toNat
theorem N_lf_in {v : Nat → Int} {x : Int} (hS : N_S v) : 2 ≤ N_lf v x ∧ 2 * N_lf v x ≤ v 0 := by
  have h0 := hS.1
  have := P_lg_in (ex := 1) (N_wx_in (v := v) (x := x)) (v 0 / 2 - 2).toNat (by omega)
  unfold N_lf
  omega
theorem N_m1_in {v : Nat → Int} {x : Int} (hS : N_S v) (j : Nat) (hj : j < (N_lf v x).toNat) : ja_sp (N_m1 v x j) := by
  have := @N_lf_in v x hS
  exact P_mx_in (N_wx_in _) (N_wx_in _) ⟨by omega, by omega⟩ (by omega)
theorem N_m2_in {v : Nat → Int} {x : Int} (hS : N_S v) (j : Nat) (hj : j < (N_lf v x).toNat) : ja_sp (N_m2 v x j) := by
  have := @N_lf_in v x hS
  exact P_mx_in (N_wx_in _) (N_wx_in _) ⟨by omega, by omega⟩ (by omega)
/-- but for the counters of stretched and compressed -/
def N_q2 (v w : Nat → Int) : Prop := ∀ j, j ≠ 22 → j ≠ 15 → j ≠ 16 → (j < 2342 ∨ 2372 ≤ j) → w j = v j
theorem N_f0_R {v : Nat → Int} {x : Int} (hR : N_R v) : N_R (N_f0 v x) ∧ N_f0 v x 22 = v 22 ∧ N_q2 v (N_f0 v x) := by
  unfold N_f0
  refine ⟨(hR.rs (i := 16) trivial).rs (i := 15) trivial, by rw [ja_rs_n (by omega), ja_rs_n (by omega)], fun j a b c d => by rw [ja_rs_n (by omega), ja_rs_n (by omega)]⟩
theorem N_q2.q {u v w : Nat → Int} (h : N_q2 u v) (h2 : N_q v w) : N_q2 u w := fun j a b c d => (h2 j a d).trans (h j a b c d)
theorem N_fi_R {v : Nat → Int} {x : Int} (hR : N_R v) (h22 : v 22 = 0) : N_R (N_fi v x) ∧ N_q2 v (N_fi v x) := by
  have hS := hR.S
  have h0 := hS.1
  have hl := @N_lf_in v x hS
  obtain ⟨a1, a2, a3⟩ := N_f0_R (x := x) hR
  unfold N_fi
  split
  · obtain ⟨b1, b2, b3⟩ := N_gs_R (h := N_m1 v x) a1 (N_lf v x).toNat (N_m1_in hS) (by omega)
    obtain ⟨c1, c2, c3⟩ := N_gs_R (h := fun i => N_wx v x ((2 * N_lf v x).toNat + i)) b1 (v 0 - 2 * N_lf v x).toNat (fun j _ => N_wx_in _) (by omega)
    exact ⟨c1, a3.q (b3.tr c3)⟩
  · obtain ⟨b1, b2, b3⟩ := N_gs_R (h := N_wx v x) a1 (N_lf v x).toNat (fun j _ => N_wx_in _) (by omega)
    split
    · obtain ⟨c1, c2, c3⟩ := N_gs_R (h := N_m2 v x) b1 (N_lf v x).toNat (N_m2_in hS) (by omega)
      obtain ⟨d1, d2, d3⟩ := N_gs_R (h := fun i => N_wx v x ((N_lf v x).toNat + i)) c1 (v 0 - N_lf v x).toNat (fun j _ => N_wx_in _) (by omega)
      exact ⟨d1, a3.q ((b3.tr c3).tr d3)⟩
    · obtain ⟨d1, d2, d3⟩ := N_gs_R (h := fun i => N_wx v x ((N_lf v x).toNat + i)) b1 (v 0 - N_lf v x).toNat (fun j _ => N_wx_in _) (by omega)
      exact ⟨d1, a3.q (b3.tr d3)⟩
-- concealing
def N_ol (v : Nat → Int) (b : Int) : Int := v (2054 + (v 12 - b) % 256).toNat
def N_og (v : Nat → Int) : Nat → Int := fun j => N_ol v ((j : Int) + 1)
theorem N_ol_in {v : Nat → Int} {b : Int} (hR : N_R v) : ja_sp (N_ol v b) := hR.H (j := (2054 + (v 12 - b) % 256).toNat) (by omega) (by omega)
def N_lk (v : Nat → Int) : Nat := ((if 16 < v 12 / 2 then 16 else v 12 / 2) - 2).toNat
def N_lh (v : Nat → Int) : Int := if v 12 < 4 then 0 else (P_lg (N_og v) 1 (N_lk v)).1
theorem N_lh_in {v : Nat → Int} (hR : N_R v) : (N_lh v = 0 ∨ 2 ≤ N_lh v) ∧ 2 * N_lh v ≤ v 12 ∧ 0 ≤ N_lh v ∧ N_lh v ≤ 16 := by
  have hC := hR.C
  unfold N_lh
  split
  · omega
  · have hk : N_lk v ≤ 14 ∧ 2 * ((N_lk v : Int) + 2) ≤ v 12 := by
      unfold N_lk
      split <;> omega
    have := P_lg_in (ex := 1) (g := N_og v) (fun j => N_ol_in hR) (N_lk v) (by omega)
    omega
def N_fd : Nat → Int → Int
  | 0, x => x
  | k + 1, x => N_fd k ((x * 3).tdiv 4)
theorem N_fd_in : ∀ (k : Nat) (x : Int), ja_sp x → ja_sp (N_fd k x)
  | 0, x, h => h
  | k + 1, x, h => N_fd_in k _ (P_fd1 h)
def N_cm (v : Nat → Int) : Nat → Int := fun j => N_fd (v 13).toNat (if N_lh v = 0 then 0 else N_ol v (N_lh v - (j : Int) % N_lh v))
theorem N_cm_in {v : Nat → Int} (hR : N_R v) (j : Nat) : ja_sp (N_cm v j) := by
  unfold N_cm
  refine N_fd_in _ _ ?_
  split
  · exact ⟨by omega, by omega⟩
  · exact N_ol_in hR
def N_co (v : Nat → Int) : Nat → Int := N_gs v (N_cm v) (v 0).toNat
-- taking
def N_kd (v : Nat → Int) (x : Int) : Int := if v (30 + x).toNat = 2 then 1 else if v (30 + x).toNat = 1 then 2 else 3
def N_sk (w : Nat → Int) : Nat → (Nat → Int)
  | 0 => w
  | j + 1 => ja_rs (N_sk w j) (2341 - j) (w (2340 - j))
def N_t0 (v : Nat → Int) : Nat → Int := ja_rs (ja_rs v 22 0) 23 0
def N_tc (u : Nat → Int) : Nat → Int := ja_rs (ja_rs u 13 (u 13 + 1)) 14 (if u 14 < u 13 + 1 then u 13 + 1 else u 14)
def N_tu (v : Nat → Int) : Nat → Int := if N_kd v (v 11) = 3 then N_co (N_tc (N_t0 v)) else N_fi (ja_rs (N_t0 v) 13 0) (v 11)
def N_td (u : Nat → Int) (kd : Int) : Nat → Int := ja_rs u (18 + kd).toNat (u (18 + kd).toNat + 1)
def N_te (u : Nat → Int) (kd : Int) : Nat → Int := ja_rs (ja_rs (N_sk u 31) 2310 kd) 11 (u 11 + 1)
def N_tk (v : Nat → Int) : Nat → Int := N_te (N_td (N_tu v) (N_kd v (v 11))) (N_kd v (v 11))
-- a tick
def N_t1 (v : Nat → Int) : Nat → Int := ja_rs (N_as v) 27 0
def N_t2 (a : Nat → Int) : Nat → Int := if a 23 = a 22 ∧ a 11 ≤ 999 then ja_rs (N_tk a) 27 (N_tk a 2310) else a
def N_t3 (b : Nat → Int) : Nat → Int := if b 23 < b 22 then ja_rs (ja_rs (ja_rs b (2054 + b 12 % 256).toNat (b (2342 + b 23).toNat)) 12 (b 12 + 1)) 23 (b 23 + 1) else b
abbrev N_on (a : Nat → Int) : Prop := 0 ≤ a 10 ∧ a 10 ≤ a 9
def N_pl (a : Nat → Int) : Nat → Int := if N_on a then N_t3 (N_t2 a) else a
def N_ti (v : Nat → Int) : Nat → Int := ja_rs (N_pl (N_t1 v)) 9 (N_pl (N_t1 v) 9 + 1)
def N_to (v : Nat → Int) : Int := if N_on (N_t1 v) ∧ N_t2 (N_t1 v) 23 < N_t2 (N_t1 v) 22 then 1 else 0
theorem N_kd_in {v : Nat → Int} {x : Int} : 1 ≤ N_kd v x ∧ N_kd v x ≤ 3 := by
  unfold N_kd
  split
  · omega
  · split <;> omega
theorem N_sk_n {w : Nat → Int} {q : Nat} : ∀ j : Nat, j ≤ 31 → (q ≤ 2341 - j ∨ 2342 ≤ q) → N_sk w j q = w q
  | 0, _, _ => rfl
  | j + 1, hj, h => by
    simp only [N_sk]
    rw [ja_rs_n (by omega)]
    exact N_sk_n j (by omega) (by omega)
theorem N_sk_R {w : Nat → Int} (hR : N_R w) : ∀ j : Nat, j ≤ 31 → N_R (N_sk w j)
  | 0, _ => hR
  | j + 1, hj => (N_sk_R hR j (by omega)).rs ((N_inD (by omega) (by omega)).mpr (hR.D (by omega) (by omega)))
theorem N_tu_R {v : Nat → Int} {t : Int} (h : N_O v t) (hn : v 11 ≤ 999) : N_R (N_tu v) ∧ (∀ j, (j < 13 ∨ (17 ≤ j ∧ j < 22) ∨ (23 < j ∧ j < 2342) ∨ 2372 ≤ j) → N_tu v j = v j) ∧ N_tu v 23 = 0 ∧ (0 ≤ N_tu v 13 ∧ N_tu v 13 ≤ v 11 + 1) ∧ (0 ≤ N_tu v 14 ∧ N_tu v 14 ≤ v 11 + 1) := by
  obtain ⟨hR, ⟨o1, o2, o3, o4, o5, o6, o7⟩, hP⟩ := h
  have hC := hR.C
  have hR0 : N_R (N_t0 v) := (hR.rs (i := 22) (show (0 : Int) ≤ 0 ∧ (0 : Int) ≤ 24 by omega)).rs (i := 23) (show (0 : Int) ≤ 0 ∧ (0 : Int) ≤ 24 by omega)
  have e0 : ∀ j, j ≠ 22 → j ≠ 23 → N_t0 v j = v j := fun j a b => by unfold N_t0; rw [ja_rs_n b, ja_rs_n a]
  have e22 : N_t0 v 22 = 0 := by unfold N_t0; rw [ja_rs_n (by omega), ja_rs_s]
  have e23 : N_t0 v 23 = 0 := by unfold N_t0; rw [ja_rs_s]
  have e13 := e0 13 (by omega) (by omega)
  have e14 := e0 14 (by omega) (by omega)
  unfold N_tu
  split
  · have hR1 : N_R (N_tc (N_t0 v)) := by
      unfold N_tc
      exact (hR0.rs (i := 13) (show 0 ≤ N_t0 v 13 + 1 ∧ N_t0 v 13 + 1 ≤ 1000 by omega)).rs (i := 14) (show 0 ≤ _ ∧ _ ≤ (1000 : Int) by split <;> omega)
    have c0 : ∀ j, j ≠ 13 → j ≠ 14 → N_tc (N_t0 v) j = N_t0 v j := fun j a b => by unfold N_tc; rw [ja_rs_n b, ja_rs_n a]
    have c13 : N_tc (N_t0 v) 13 = v 13 + 1 := by unfold N_tc; rw [ja_rs_n (by omega), ja_rs_s, e13]
    have c14 : N_tc (N_t0 v) 14 = if v 14 < v 13 + 1 then v 13 + 1 else v 14 := by unfold N_tc; rw [ja_rs_s, e13, e14]
    have hs0 := hR1.S.1
    obtain ⟨g1, g2, g3⟩ := N_gs_R (h := N_cm (N_tc (N_t0 v))) hR1 (N_tc (N_t0 v) 0).toNat (fun j _ => N_cm_in hR1 j) (by rw [c0 22 (by omega) (by omega), e22]; omega)
    refine ⟨g1, fun j hj => ?_, ?_, ?_, ?_⟩
    · exact (g3 j (by omega) (by omega)).trans ((c0 j (by omega) (by omega)).trans (e0 j (by omega) (by omega)))
    · exact (g3 23 (by omega) (by omega)).trans ((c0 23 (by omega) (by omega)).trans e23)
    · rw [show N_co (N_tc (N_t0 v)) 13 = v 13 + 1 from (g3 13 (by omega) (by omega)).trans c13]
      omega
    · rw [show N_co (N_tc (N_t0 v)) 14 = _ from (g3 14 (by omega) (by omega)).trans c14]
      split <;> omega
  · have hR1 : N_R (ja_rs (N_t0 v) 13 0) := hR0.rs (show (0 : Int) ≤ 0 ∧ (0 : Int) ≤ 1000 by omega)
    obtain ⟨f1, f2⟩ := N_fi_R (x := v 11) hR1 (by rw [ja_rs_n (by omega), e22])
    refine ⟨f1, fun j hj => ?_, ?_, ?_, ?_⟩
    · exact (f2 j (by omega) (by omega) (by omega) (by omega)).trans ((ja_rs_n (by omega)).trans (e0 j (by omega) (by omega)))
    · exact (f2 23 (by omega) (by omega) (by omega) (by omega)).trans ((ja_rs_n (by omega)).trans e23)
    · rw [show N_fi (ja_rs (N_t0 v) 13 0) (v 11) 13 = 0 from (f2 13 (by omega) (by omega) (by omega) (by omega)).trans (ja_rs_s _ _ _)]
      omega
    · rw [show N_fi (ja_rs (N_t0 v) 13 0) (v 11) 14 = v 14 from (f2 14 (by omega) (by omega) (by omega) (by omega)).trans ((ja_rs_n (by omega)).trans e14)]
      omega
theorem N_tk_O {v : Nat → Int} {t : Int} (h : N_O v t) (hn : v 11 ≤ 999) : N_O (N_tk v) t ∧ N_tk v 11 = v 11 + 1 ∧ N_tk v 23 = 0 ∧ (∀ j, (j < 11 ∨ j = 12 ∨ 23 < j ∧ j < 2310 ∨ 2372 ≤ j) → N_tk v j = v j) := by
  have h0 := h
  obtain ⟨u1, u2, u3, u4, u5⟩ := N_tu_R h hn
  obtain ⟨hR, ⟨o1, o2, o3, o4, o5, o6, o7⟩, hP⟩ := h
  have hC := hR.C
  have hkd := @N_kd_in v (v 11)
  unfold N_tk
  generalize hk : N_kd v (v 11) = kd at *
  generalize hu : N_tu v = u at *
  have hd : N_R (N_td u kd) := by
    unfold N_td
    refine u1.rs ?_
    rcases (show kd = 1 ∨ kd = 2 ∨ kd = 3 by omega) with rfl | rfl | rfl
    · exact trivial
    · exact trivial
    · have e : u 21 = v 21 := u2 21 (by omega)
      exact (show 0 ≤ u 21 + 1 ∧ u 21 + 1 ≤ 1000 by omega)
  have ed : ∀ j, (j < 19 ∨ 22 ≤ j) → N_td u kd j = u j := fun j hj => by unfold N_td; exact ja_rs_n (by omega)
  have e21 : 0 ≤ N_td u kd 21 ∧ N_td u kd 21 ≤ v 11 + 1 := by
    have e : u 21 = v 21 := u2 21 (by omega)
    unfold N_td
    by_cases h3 : kd = 3
    · subst h3
      rw [show (18 + 3 : Int).toNat = 21 from rfl, ja_rs_s]
      omega
    · rw [ja_rs_n (by omega)]
      omega
  have hkR := N_sk_R hd 31 (by omega)
  have hn11 : N_td u kd 11 = v 11 := (ed 11 (by omega)).trans (u2 11 (by omega))
  have eN : ∀ j, j ≠ 11 → (j < 2310 ∨ 2342 ≤ j) → N_te (N_td u kd) kd j = N_td u kd j := fun j a b => by
    unfold N_te
    rw [ja_rs_n a, ja_rs_n (by omega), N_sk_n 31 (by omega) (by omega)]
  have e11 : N_te (N_td u kd) kd 11 = v 11 + 1 := by
    unfold N_te
    rw [ja_rs_s, hn11]
  have hRe : N_R (N_te (N_td u kd) kd) := by
    unfold N_te
    exact (hkR.rs ((N_inD (by omega) (by omega)).mpr ⟨by omega, by omega⟩)).rs (show 0 ≤ N_td u kd 11 + 1 ∧ N_td u kd 11 + 1 ≤ 1000 by omega)
  have hall : ∀ j, (j < 11 ∨ j = 12 ∨ 23 < j ∧ j < 2310 ∨ 2372 ≤ j) → N_te (N_td u kd) kd j = v j := fun j hj => (eN j (by omega) (by omega)).trans ((ed j (by omega)).trans (u2 j (by omega)))
  have e23 : N_te (N_td u kd) kd 23 = 0 := (eN 23 (by omega) (by omega)).trans ((ed 23 (by omega)).trans u3)
  refine ⟨⟨hRe, ?_, ?_⟩, e11, e23, hall⟩
  · have hC2 := hRe.C
    rw [e23, e11, hall 9 (by omega), hall 10 (by omega), hall 12 (by omega), eN 13 (by omega) (by omega), ed 13 (by omega), eN 14 (by omega) (by omega), ed 14 (by omega), eN 21 (by omega) (by omega)]
    exact ⟨o1, o2, o3, by omega, by omega, by omega, by omega⟩
  · exact hP.c (fun j hj => hall j (by omega)) (hall 25 (by omega)) (fun j hj => hall j (by omega))
theorem N_t1_O {v : Nat → Int} {t : Int} (h : N_O v t) (ht : t ≤ 900000) : N_O (N_t1 v) t := by
  have h1 := (N_as_O h ht).1
  exact h1.kp (h1.1.rs (show (0 : Int) ≤ 0 ∧ (0 : Int) ≤ 3 by omega)) (N_k.rf.rs ⟨by omega, by omega, by omega, by omega, by omega, by omega⟩)
theorem N_t2_O {a : Nat → Int} {t : Int} (h : N_O a t) : N_O (N_t2 a) t ∧ ∀ j, j < 11 → N_t2 a j = a j := by
  unfold N_t2
  split
  · rename_i hc
    obtain ⟨k1, k2, k3, k4⟩ := N_tk_O h hc.2
    exact ⟨k1.kp (k1.1.rs (k1.1.D (j := 2310) (by omega) (by omega))) (N_k.rf.rs ⟨by omega, by omega, by omega, by omega, by omega, by omega⟩), fun j hj => by rw [ja_rs_n (by omega)]; exact k4 j (by omega)⟩
  · exact ⟨h, fun _ _ => rfl⟩
theorem N_ti_O {v : Nat → Int} {t : Int} (h : N_O v t) (ht : t ≤ 900000) : N_O (N_ti v) (t + 1) := by
  have h1 := N_t1_O h ht
  have key2 : ∀ b : Nat → Int, N_R b → (b 9 ≤ t ∧ b 10 ≤ t + 200 ∧ b 12 ≤ b 9 + 1 ∧ b 13 ≤ b 11 ∧ b 14 ≤ b 11 ∧ b 21 ≤ b 11 ∧ b 23 ≤ b 22) → N_P b → N_O (ja_rs b 9 (b 9 + 1)) (t + 1) := by
    intro b hR ho hP
    obtain ⟨o1, o2, o3, o4, o5, o6, o7⟩ := ho
    have hC := hR.C
    refine ⟨hR.rs (show 0 ≤ b 9 + 1 ∧ b 9 + 1 ≤ 900002 by omega), ?_, hP.c (fun j hj => ja_rs_n (by omega)) (ja_rs_n (by omega)) (fun j hj => ja_rs_n (by omega))⟩
    rw [ja_rs_s, ja_rs_n (show (10 : Nat) ≠ 9 by omega), ja_rs_n (show (11 : Nat) ≠ 9 by omega), ja_rs_n (show (12 : Nat) ≠ 9 by omega), ja_rs_n (show (13 : Nat) ≠ 9 by omega), ja_rs_n (show (14 : Nat) ≠ 9 by omega), ja_rs_n (show (21 : Nat) ≠ 9 by omega), ja_rs_n (show (22 : Nat) ≠ 9 by omega), ja_rs_n (show (23 : Nat) ≠ 9 by omega)]
    omega
  have key : ∀ b : Nat → Int, N_O b t → N_O (ja_rs (N_t3 b) 9 (N_t3 b 9 + 1)) (t + 1) := by
    intro b hb
    obtain ⟨hR, ⟨o1, o2, o3, o4, o5, o6, o7⟩, hP⟩ := hb
    have hC := hR.C
    unfold N_t3
    split
    · have hg := hR.G (j := (2342 + b 23).toNat) (by omega) (by omega)
      have hx := ((hR.rs (i := (2054 + b 12 % 256).toNat) ((N_inH (by omega) (by omega)).mpr hg)).rs (i := 12) (show 0 ≤ b 12 + 1 ∧ b 12 + 1 ≤ 900002 by omega)).rs (i := 23) (show 0 ≤ b 23 + 1 ∧ b 23 + 1 ≤ 24 by omega)
      have en : ∀ j, j ≠ 12 → j ≠ 23 → (j < 2054 ∨ 2310 ≤ j) → ja_rs (ja_rs (ja_rs b (2054 + b 12 % 256).toNat (b (2342 + b 23).toNat)) 12 (b 12 + 1)) 23 (b 23 + 1) j = b j := fun j a1 a2 a3 => by rw [ja_rs_n a2, ja_rs_n a1, ja_rs_n (by omega)]
      have e12 : ja_rs (ja_rs (ja_rs b (2054 + b 12 % 256).toNat (b (2342 + b 23).toNat)) 12 (b 12 + 1)) 23 (b 23 + 1) 12 = b 12 + 1 := by rw [ja_rs_n (by omega), ja_rs_s]
      have e23 : ja_rs (ja_rs (ja_rs b (2054 + b 12 % 256).toNat (b (2342 + b 23).toNat)) 12 (b 12 + 1)) 23 (b 23 + 1) 23 = b 23 + 1 := ja_rs_s _ _ _
      generalize ja_rs (ja_rs (ja_rs b (2054 + b 12 % 256).toNat (b (2342 + b 23).toNat)) 12 (b 12 + 1)) 23 (b 23 + 1) = w at *
      refine key2 w hx ?_ (hP.c (fun j hj => en j (by omega) (by omega) (by omega)) (en 25 (by omega) (by omega) (by omega)) (fun j hj => en j (by omega) (by omega) (by omega)))
      rw [e12, e23, en 9 (by omega) (by omega) (by omega), en 10 (by omega) (by omega) (by omega), en 11 (by omega) (by omega) (by omega), en 13 (by omega) (by omega) (by omega), en 14 (by omega) (by omega) (by omega), en 21 (by omega) (by omega) (by omega), en 22 (by omega) (by omega) (by omega)]
      omega
    · exact key2 b hR ⟨o1, o2, by omega, o4, o5, o6, o7⟩ hP
  unfold N_ti N_pl
  split
  · exact key _ (N_t2_O h1).1
  · obtain ⟨hR, ⟨o1, o2, o3, o4, o5, o6, o7⟩, hP⟩ := h1
    exact key2 _ hR ⟨o1, o2, by omega, o4, o5, o6, o7⟩ hP
end
section
theorem N_q.ol {v w : Nat → Int} {b : Int} (h : N_q v w) : N_ol w b = N_ol v b := by
  unfold N_ol
  rw [h 12 (by omega) (by omega), h _ (by omega) (by omega)]
end
section
abbrev rm_X9_begins : Room := { frames := 0, cells := 0, slots := 0, locals := 0 }
set_option maxRecDepth 100000 in
set_option maxHeartbeats 800000 in
theorem c_X9_begins (l : Launch) (D : va_G) (cA : Nat → ClassId) (B : Nat) {lay : ja_Y} {n : Nat} {m : Nat} {G : ja_M} {v : Nat → Int} (hM : ja_LM lay m) (hR : N_R v) : ja_Mt l D cA B yX9_begins cX9_begins 1 none rm_X9_begins [.ref m] lay (ja_rw G (m + 1) v) n (ja_rd lay (ja_rw G (m + 1) (N_be v)) n (none)) := by
  refine ja_enter [some (.ref m)] (by decide) (Nat.le_of_ble_eq_true rfl) (fun q hq => hq) (fun C F Rt GC hnm => ?_)
  have hC := hR.C
  have hS := hR.S
  refine r_aload_n F rfl rfl dX9_begins_0 rfl ?_
  refine r_getR F f_X9_7 (hM.1) rfl dX9_begins_1 rfl ?_
  refine r_bipush F (by decide) dX9_begins_4 rfl ?_
  refine r_iald F (ja_LM_1 hM) (by omega) (by omega) (by decide) dX9_begins_6 rfl ?_
  refine r_eqz (z := (v 10)) (by rw [ja_rw_s, show Int.toNat 10 = 10 from rfl]) ?_
  refine r_if_ge F (tgt := 31) ⟨by omega, by omega⟩ dX9_begins_7 rfl (by decide) (fun h_7 => ?_) (fun h_7 => ?_)
  ·
    exact r_vret F Rt dX9_begins_31 (by decide) ⟨rfl, rfl, by unfold N_be; first | rw [if_pos (by omega)] | rw [if_neg (by omega)], rfl⟩
  ·
    refine r_aload_n F rfl rfl dX9_begins_10 rfl ?_
    refine r_getR F f_X9_7 (hM.1) rfl dX9_begins_11 rfl ?_
    refine r_bipush F (by decide) dX9_begins_14 rfl ?_
    refine r_aload_n F rfl rfl dX9_begins_16 rfl ?_
    refine r_getR F f_X9_7 (hM.1) rfl dX9_begins_17 rfl ?_
    refine r_bipush F (by decide) dX9_begins_20 rfl ?_
    refine r_iald F (ja_LM_1 hM) (by omega) (by omega) (by decide) dX9_begins_22 rfl ?_
    refine r_eqz (z := (v 9)) (by rw [ja_rw_s, show Int.toNat 9 = 9 from rfl]) ?_
    refine r_aload_n F rfl rfl dX9_begins_23 rfl ?_
    refine r_getR F f_X9_7 (hM.1) rfl dX9_begins_24 rfl ?_
    refine r_iconst F dX9_begins_27 rfl ?_
    refine r_iald F (ja_LM_1 hM) (by omega) (by omega) (by decide) dX9_begins_28 rfl ?_
    refine r_eqz (z := (v 5)) (by rw [ja_rw_s, show Int.toNat 5 = 5 from rfl]) ?_
    refine r_iadd F dX9_begins_29 rfl ?_
    refine r_iast F (ja_LM_1 hM) (by omega) (by omega) (by decide) dX9_begins_30 rfl ?_
    refine r_mem (mem' := ja_rw G (m + 1) (ja_rs v 10 ((v 9) + (v 5)))) (ja_rw_up _ _ _ _ _) ?_
    exact r_vret F Rt dX9_begins_31 (by decide) ⟨rfl, rfl, by unfold N_be; first | rw [if_pos (by omega)] | rw [if_neg (by omega)], rfl⟩
abbrev rm_X9_sampleOf : Room := { frames := 0, cells := 0, slots := 0, locals := 0 }
set_option maxRecDepth 100000 in
set_option maxHeartbeats 800000 in
theorem c_X9_sampleOf (l : Launch) (D : va_G) (cA : Nat → ClassId) (B : Nat) {lay : ja_Y} {n : Nat} {m : Nat} {G : ja_M} {v : Nat → Int} (hM : ja_LM lay m) {x j : Int} (hS : N_S v) (hx : 0 ≤ x ∧ x ≤ 1000) (hj : 0 ≤ j ∧ j ≤ 16) : ja_Mt l D cA B yX9_sampleOf cX9_sampleOf 4 (some .int) rm_X9_sampleOf [.ref m, .int (ja_I x), .int (ja_I j)] lay (ja_rw G (m + 1) v) n (ja_rd lay (ja_rw G (m + 1) v) n (some (.int (ja_I (N_wv v x j))))) := by
  refine ja_enter [some (.ref m), some (.int (ja_I x)), some (.int (ja_I j)), none] (by decide) (Nat.le_of_ble_eq_true rfl) (fun q hq => hq) (fun C F Rt GC hnm => ?_)
  have hf := N_fxs hS hx
  obtain ⟨-, s1, s2, -⟩ := id hS
  refine r_iload_n F rfl rfl dX9_sampleOf_0 rfl ?_
  refine r_aload_n F rfl rfl dX9_sampleOf_1 rfl ?_
  refine r_getR F f_X9_7 (hM.1) rfl dX9_sampleOf_2 rfl ?_
  refine r_iconst F dX9_sampleOf_5 rfl ?_
  refine r_iald F (ja_LM_1 hM) (by omega) (by omega) (by decide) dX9_sampleOf_6 rfl ?_
  refine r_eqz (z := (v 0)) (by rw [ja_rw_s, show Int.toNat 0 = 0 from rfl]) ?_
  refine r_imul F dX9_sampleOf_7 rfl ?_
  refine r_iload_n F rfl rfl dX9_sampleOf_8 rfl ?_
  refine r_iadd F dX9_sampleOf_9 rfl ?_
  refine r_ist3 F (by decide) rfl dX9_sampleOf_10 rfl ?_
  refine r_aload_n F rfl rfl dX9_sampleOf_11 rfl ?_
  refine r_getR F f_X9_7 (hM.1) rfl dX9_sampleOf_12 rfl ?_
  refine r_iconst F dX9_sampleOf_15 rfl ?_
  refine r_iald F (ja_LM_1 hM) (by omega) (by omega) (by decide) dX9_sampleOf_16 rfl ?_
  refine r_eqz (z := (v 2)) (by rw [ja_rw_s, show Int.toNat 2 = 2 from rfl]) ?_
  refine r_iload_n F rfl rfl dX9_sampleOf_17 rfl ?_
  refine r_aload_n F rfl rfl dX9_sampleOf_18 rfl ?_
  refine r_getR F f_X9_7 (hM.1) rfl dX9_sampleOf_19 rfl ?_
  refine r_iconst F dX9_sampleOf_22 rfl ?_
  refine r_iald F (ja_LM_1 hM) (by omega) (by omega) (by decide) dX9_sampleOf_23 rfl ?_
  refine r_eqz (z := (v 1)) (by rw [ja_rw_s, show Int.toNat 1 = 1 from rfl]) ?_
  have e1 := Int.emod_nonneg (x * v 0 + j) (show v 1 ≠ 0 by omega)
  have e2 := Int.emod_lt_of_pos (x * v 0 + j) (show 0 < v 1 by omega)
  refine r_iremP F ⟨by omega, by omega⟩ ⟨by omega, by omega⟩ (by omega) (by omega) dX9_sampleOf_24 rfl ?_
  refine r_imul F dX9_sampleOf_25 rfl ?_
  refine r_sipush F (by decide) dX9_sampleOf_26 rfl ?_
  have e3 := ja_mulb (by omega : 0 ≤ v 2) s2.2 e1 (by omega : (x * v 0 + j) % v 1 ≤ 32)
  refine r_iremP F ⟨by omega, by omega⟩ ⟨by omega, by omega⟩ (by omega) (by omega) dX9_sampleOf_29 rfl ?_
  refine r_bipush F (by decide) dX9_sampleOf_30 rfl ?_
  refine r_isub F dX9_sampleOf_32 rfl ?_
  exact r_iret F Rt dX9_sampleOf_33 (by decide) ⟨rfl, rfl, rfl, rfl⟩
abbrev rm_X9_sees : Room := { frames := 0, cells := 0, slots := 0, locals := 0 }
set_option maxRecDepth 100000 in
set_option maxHeartbeats 800000 in
theorem c_X9_sees (l : Launch) (D : va_G) (cA : Nat → ClassId) (B : Nat) {lay : ja_Y} {n : Nat} {m : Nat} {G : ja_M} {v : Nat → Int} (hM : ja_LM lay m) {z : Int} (hR : N_R v) : ja_Mt l D cA B yX9_sees cX9_sees 3 none rm_X9_sees [.ref m, .int (ja_I z)] lay (ja_rw G (m + 1) v) n (ja_rd lay (ja_rw G (m + 1) (N_se v z)) n (none)) := by
  refine ja_enter [some (.ref m), some (.int (ja_I z)), none] (by decide) (Nat.le_of_ble_eq_true rfl) (fun q hq => hq) (fun C F Rt GC hnm => ?_)
  have hC := hR.C
  obtain ⟨r0, r1, -⟩ := N_s0_R hR
  have J52 : ja_W C 0 0 lay (ja_rw G (m + 1) (N_s0 v)) n 52 [some (.ref m), some (.int (ja_I z)), none] [] := by
    refine r_aload_n F rfl rfl dX9_sees_52 rfl ?_
    refine r_getR F f_X9_7 (hM.1) rfl dX9_sees_53 rfl ?_
    refine r_sipush F (by decide) dX9_sees_56 rfl ?_
    refine r_aload_n F rfl rfl dX9_sees_59 rfl ?_
    refine r_getR F f_X9_7 (hM.1) rfl dX9_sees_60 rfl ?_
    refine r_bipush F (by decide) dX9_sees_63 rfl ?_
    refine r_iald F (ja_LM_1 hM) (by omega) (by omega) (by decide) dX9_sees_65 rfl ?_
    refine r_eqz (z := ((N_s0 v) 24)) (by rw [ja_rw_s, show Int.toNat 24 = 24 from rfl]) ?_
    refine r_iadd F dX9_sees_66 rfl ?_
    refine r_iload_n F rfl rfl dX9_sees_67 rfl ?_
    refine r_iast F (ja_LM_1 hM) (by omega) (by omega) (by decide) dX9_sees_68 rfl ?_
    refine r_mem (mem' := ja_rw G (m + 1) (ja_rs (N_s0 v) (Int.toNat (2372 + ((N_s0 v) 24))) z)) (ja_rw_up _ _ _ _ _) ?_
    refine r_aload_n F rfl rfl dX9_sees_69 rfl ?_
    refine r_getR F f_X9_7 (hM.1) rfl dX9_sees_70 rfl ?_
    refine r_bipush F (by decide) dX9_sees_73 rfl ?_
    refine r_dup2 F rfl rfl dX9_sees_75 rfl ?_
    refine r_iald F (ja_LM_1 hM) (by omega) (by omega) (by decide) dX9_sees_76 rfl ?_
    refine r_eqz (z := ((N_s0 v) 24)) (by rw [ja_rw_s, show Int.toNat 24 = 24 from rfl, ja_rs_n (by omega)]) ?_
    refine r_iconst F dX9_sees_77 rfl ?_
    refine r_iadd F dX9_sees_78 rfl ?_
    refine r_iast F (ja_LM_1 hM) (by omega) (by omega) (by decide) dX9_sees_79 rfl ?_
    refine r_mem (mem' := ja_rw G (m + 1) (ja_rs (ja_rs (N_s0 v) (Int.toNat (2372 + ((N_s0 v) 24))) z) 24 (((N_s0 v) 24) + 1))) (ja_rw_up _ _ _ _ _) ?_
    exact r_vret F Rt dX9_sees_80 (by decide) ⟨rfl, rfl, rfl, rfl⟩
  refine r_aload_n F rfl rfl dX9_sees_0 rfl ?_
  refine r_getR F f_X9_7 (hM.1) rfl dX9_sees_1 rfl ?_
  refine r_bipush F (by decide) dX9_sees_4 rfl ?_
  refine r_iald F (ja_LM_1 hM) (by omega) (by omega) (by decide) dX9_sees_6 rfl ?_
  refine r_eqz (z := (v 24)) (by rw [ja_rw_s, show Int.toNat 24 = 24 from rfl]) ?_
  refine r_bipush F (by decide) dX9_sees_7 rfl ?_
  refine r_icmp_ne F (tgt := 52) ⟨by omega, by omega⟩ ⟨by omega, by omega⟩ dX9_sees_9 rfl (by decide) (fun h_9 => ?_) (fun h_9 => ?_)
  ·
    refine r_mem (mem' := ja_rw G (m + 1) (N_s0 v)) (by unfold N_s0; first | rw [if_neg h_9] | (obtain rfl : c = 15 := (by omega); rw [if_pos h9])) ?_
    refine r_msk [true, true, false] rfl ?_
    exact J52
  ·
    have h9 : v 24 = 16 := h_9
    refine r_sipush F (by decide) dX9_sees_12 rfl ?_
    refine r_ist2 F (by decide) rfl dX9_sees_15 rfl ?_
    have loop : ∀ (d c : Nat), c + d = 15 → ja_W C 0 0 lay (ja_rw G (m + 1) (N_sh v c)) n 16 [some (.ref (m)), some (.int (ja_I (z))), some (.int (ja_I ((2372 + (c : Int)))))] [] := by
      intro d
      induction d with
      | zero =>
        intro c hc
        refine r_iload_n F rfl rfl dX9_sees_16 rfl ?_
        refine r_sipush F (by decide) dX9_sees_17 rfl ?_
        refine r_icmp_ge F (tgt := 43) ⟨by omega, by omega⟩ ⟨by omega, by omega⟩ dX9_sees_20 rfl (by decide) (fun h_20 => ?_) (fun h_20 => ?_)
        ·
          refine r_aload_n F rfl rfl dX9_sees_43 rfl ?_
          refine r_getR F f_X9_7 (hM.1) rfl dX9_sees_44 rfl ?_
          refine r_bipush F (by decide) dX9_sees_47 rfl ?_
          refine r_bipush F (by decide) dX9_sees_49 rfl ?_
          refine r_iast F (ja_LM_1 hM) (by omega) (by omega) (by decide) dX9_sees_51 rfl ?_
          refine r_mem (mem' := ja_rw G (m + 1) (ja_rs (N_sh v c) 24 15)) (ja_rw_up _ _ _ _ _) ?_
          refine r_mem (mem' := ja_rw G (m + 1) (N_s0 v)) (by unfold N_s0; first | rw [if_neg h_9] | (obtain rfl : c = 15 := (by omega); rw [if_pos h9])) ?_
          refine r_msk [true, true, false] rfl ?_
          exact J52
        ·
          exfalso; omega
      | succ d ih =>
        intro c hc
        refine r_iload_n F rfl rfl dX9_sees_16 rfl ?_
        refine r_sipush F (by decide) dX9_sees_17 rfl ?_
        refine r_icmp_ge F (tgt := 43) ⟨by omega, by omega⟩ ⟨by omega, by omega⟩ dX9_sees_20 rfl (by decide) (fun h_20 => ?_) (fun h_20 => ?_)
        ·
          exfalso; omega
        ·
          refine r_aload_n F rfl rfl dX9_sees_23 rfl ?_
          refine r_getR F f_X9_7 (hM.1) rfl dX9_sees_24 rfl ?_
          refine r_iload_n F rfl rfl dX9_sees_27 rfl ?_
          refine r_aload_n F rfl rfl dX9_sees_28 rfl ?_
          refine r_getR F f_X9_7 (hM.1) rfl dX9_sees_29 rfl ?_
          refine r_iload_n F rfl rfl dX9_sees_32 rfl ?_
          refine r_iconst F dX9_sees_33 rfl ?_
          refine r_iadd F dX9_sees_34 rfl ?_
          refine r_iald F (ja_LM_1 hM) (by omega) (by omega) (by decide) dX9_sees_35 rfl ?_
          refine r_eqz (z := ((N_sh v c) (Int.toNat ((2372 + (c : Int)) + 1)))) (by rw [ja_rw_s]) ?_
          refine r_iast F (ja_LM_1 hM) (by omega) (by omega) (by decide) dX9_sees_36 rfl ?_
          refine r_mem (mem' := ja_rw G (m + 1) (ja_rs (N_sh v c) (Int.toNat (2372 + (c : Int))) ((N_sh v c) (Int.toNat ((2372 + (c : Int)) + 1))))) (ja_rw_up _ _ _ _ _) ?_
          refine r_inc2 F (by decide) rfl dX9_sees_37 rfl ?_
          refine r_goto F (tgt := 16) dX9_sees_40 (by decide) ?_
          have e1 : N_sh v c (Int.toNat (2372 + (c : Int) + 1)) = v (2372 + c + 1) := by rw [show Int.toNat (2372 + (c : Int) + 1) = 2372 + c + 1 by omega]; exact N_sh_n c (by omega)
          rw [e1, show (2372 + (c : Int)) + 1 = 2372 + ((c + 1 : Nat) : Int) by omega, show Int.toNat (2372 + (c : Int)) = 2372 + c by omega]
          exact ih (c + 1) (by omega)
    exact loop (15) 0 (by omega)
abbrev rm_X9_arrives : Room := { frames := 5, cells := 0, slots := 0, locals := 119 }
set_option maxRecDepth 100000 in
set_option maxHeartbeats 800000 in
theorem c_X9_arrives (l : Launch) (D : va_G) (cA : Nat → ClassId) (B : Nat) {lay : ja_Y} {n : Nat} {m : Nat} {G : ja_M} {v : Nat → Int} (hM : ja_LM lay m) {x : Int} {t : Int} (hO : N_O v t) (ht : t ≤ 900000) (hx : 0 ≤ x ∧ x ≤ 999) : ja_Mt l D cA B yX9_arrives cX9_arrives 2 (some .int) rm_X9_arrives [.ref m, .int (ja_I x)] lay (ja_rw G (m + 1) v) n (ja_rd lay (ja_rw G (m + 1) (N_av v x)) n (some (.int (ja_I (N_an v x))))) := by
  refine ja_enter [some (.ref m), some (.int (ja_I x))] (by decide) (Nat.le_of_ble_eq_true rfl) (fun q hq => hq) (fun C F Rt GC hnm => ?_)
  have hR := hO.1
  have hS := hR.S
  have hC := hR.C
  obtain ⟨o1, o2, o3, o4, o5, o6, o7⟩ := id hO.2.1
  have hb := N_be_O hO ht
  have hbC := hb.1.C
  have ha1 := N_a1_R hb.1 hx
  have hfx := N_fxs (x := x) hb.1.S ⟨by omega, by omega⟩
  have hw := N_aw_O hO ht hx
  have hws := N_aw_ss hO ht hx
  have har := N_ar_in hS
  have hB : N_hB (N_aw v x) (x / N_ar v) := hws.hB.mpr (N_blk hS hx)
  refine r_aload_n F rfl rfl dX9_arrives_0 rfl ?_
  refine r_iload_n F rfl rfl dX9_arrives_1 rfl ?_
  refine r_callV F GC (c_X9_isKnown _ _ _ _ hM hR ⟨by omega, by omega⟩) v_X9_59 rfl (hM.1) rfl (by decide) (by decide) (Nat.le_of_ble_eq_true rfl) rfl dX9_arrives_2 rfl (fun v lay' mem' n' hp => ?_)
  obtain ⟨q1, q2, q3, q4⟩ := hp
  subst q1; subst q2; subst q3; subst q4
  refine r_if_eq F (tgt := 21) ja_b_in dX9_arrives_5 rfl (by decide) (fun h_5 => ?_) (fun h_5 => ?_)
  ·
    have b_5 : ¬ (N_kn v x) := ja_b_0.mp h_5
    refine r_aload_n F rfl rfl dX9_arrives_21 rfl ?_
    refine r_callV F GC (c_X9_begins _ _ _ _ hM hR) v_X9_73 rfl (hM.1) rfl (by decide) (by decide) (Nat.le_of_ble_eq_true rfl) rfl dX9_arrives_22 rfl (fun v lay' mem' n' hp => ?_)
    obtain ⟨q1, q2, q3, q4⟩ := hp
    subst q1; subst q2; subst q3; subst q4
    refine r_aload_n F rfl rfl dX9_arrives_25 rfl ?_
    refine r_getR F f_X9_7 (hM.1) rfl dX9_arrives_26 rfl ?_
    refine r_bipush F (by decide) dX9_arrives_29 rfl ?_
    refine r_iload_n F rfl rfl dX9_arrives_31 rfl ?_
    refine r_iadd F dX9_arrives_32 rfl ?_
    refine r_iconst F dX9_arrives_33 rfl ?_
    refine r_iast F (ja_LM_1 hM) (by omega) (by omega) (by decide) dX9_arrives_34 rfl ?_
    refine r_mem (mem' := ja_rw G (m + 1) (ja_rs (N_be v) (Int.toNat (30 + x)) 2)) (ja_rw_up _ _ _ _ _) ?_
    refine r_aload_n F rfl rfl dX9_arrives_35 rfl ?_
    refine r_getR F f_X9_7 (hM.1) rfl dX9_arrives_36 rfl ?_
    refine r_bipush F (by decide) dX9_arrives_39 rfl ?_
    refine r_dup2 F rfl rfl dX9_arrives_41 rfl ?_
    refine r_iald F (ja_LM_1 hM) (by omega) (by omega) (by decide) dX9_arrives_42 rfl ?_
    refine r_eqz (z := ((N_be v) 17)) (by rw [ja_rw_s, show Int.toNat 17 = 17 from rfl, ja_rs_n (by omega)]) ?_
    have J59 : ja_W C 0 0 lay (ja_rw G (m + 1) (ja_rs (N_be v) (Int.toNat (30 + x)) 2)) n 59 [some (.ref (m)), some (.int (ja_I (x)))] [.int (ja_I (if x < N_be v 11 then 1 else 0)), .int (ja_I (((N_be v) 17))), .int (ja_I (17)), .ref ((m + 1))] := by
      refine r_iadd F dX9_arrives_59 rfl ?_
      refine r_iast F (ja_LM_1 hM) (by omega) (by omega) (by decide) dX9_arrives_60 rfl ?_
      refine r_mem (mem' := ja_rw G (m + 1) (ja_rs (ja_rs (N_be v) (Int.toNat (30 + x)) 2) 17 (((N_be v) 17) + (if x < N_be v 11 then 1 else 0)))) (ja_rw_up _ _ _ _ _) ?_
      refine r_mem (mem' := ja_rw G (m + 1) (N_a1 (N_be v) x)) rfl ?_
      refine r_aload_n F rfl rfl dX9_arrives_61 rfl ?_
      refine r_aload_n F rfl rfl dX9_arrives_62 rfl ?_
      refine r_getR F f_X9_7 (hM.1) rfl dX9_arrives_63 rfl ?_
      refine r_bipush F (by decide) dX9_arrives_66 rfl ?_
      refine r_iald F (ja_LM_1 hM) (by omega) (by omega) (by decide) dX9_arrives_68 rfl ?_
      refine r_eqz (z := ((N_a1 (N_be v) x) 9)) (by rw [ja_rw_s, show Int.toNat 9 = 9 from rfl]) ?_
      refine r_eqz (z := N_be v 9) (ha1.2 9 (by omega)) ?_
      refine r_iload_n F rfl rfl dX9_arrives_69 rfl ?_
      refine r_aload_n F rfl rfl dX9_arrives_70 rfl ?_
      refine r_getR F f_X9_7 (hM.1) rfl dX9_arrives_71 rfl ?_
      refine r_iconst F dX9_arrives_74 rfl ?_
      refine r_iald F (ja_LM_1 hM) (by omega) (by omega) (by decide) dX9_arrives_75 rfl ?_
      refine r_eqz (z := ((N_a1 (N_be v) x) 0)) (by rw [ja_rw_s, show Int.toNat 0 = 0 from rfl]) ?_
      refine r_eqz (z := N_be v 0) (ha1.2 0 (by omega)) ?_
      refine r_imul F dX9_arrives_76 rfl ?_
      refine r_isub F dX9_arrives_77 rfl ?_
      refine r_callV F GC (c_X9_sees _ _ _ _ hM ha1.1) v_X9_76 rfl (hM.1) rfl (by decide) (by decide) (Nat.le_of_ble_eq_true rfl) rfl dX9_arrives_78 rfl (fun v lay' mem' n' hp => ?_)
      obtain ⟨q1, q2, q3, q4⟩ := hp
      subst q1; subst q2; subst q3; subst q4
      refine r_mem (mem' := ja_rw G (m + 1) (N_aw v x)) rfl ?_
      refine r_iconst F dX9_arrives_81 rfl ?_
      refine r_aload_n F rfl rfl dX9_arrives_82 rfl ?_
      refine r_iload_n F rfl rfl dX9_arrives_83 rfl ?_
      refine r_aload_n F rfl rfl dX9_arrives_84 rfl ?_
      refine r_callV F GC (c_X9_area _ _ _ _ hM hw.1.S) v_X9_47 rfl (hM.1) rfl (by decide) (by decide) (Nat.le_of_ble_eq_true rfl) rfl dX9_arrives_85 rfl (fun v lay' mem' n' hp => ?_)
      obtain ⟨q1, q2, q3, q4⟩ := hp
      subst q1; subst q2; subst q3; subst q4
      refine r_eqz (z := N_ar v) hws.ar ?_
      refine r_idivP F ⟨by omega, by omega⟩ ⟨by omega, by omega⟩ (by omega) (by omega) dX9_arrives_88 rfl ?_
      refine r_iconst F dX9_arrives_89 rfl ?_
      refine r_callV F GC (c_X9_restores _ _ _ _ hM hw.1 hB ⟨by omega, by omega⟩) v_X9_80 rfl (hM.1) rfl (by decide) (by decide) (Nat.le_of_ble_eq_true rfl) rfl dX9_arrives_90 rfl (fun v lay' mem' n' hp => ?_)
      obtain ⟨q1, q2, q3, q4⟩ := hp
      subst q1; subst q2; subst q3; subst q4
      refine r_iadd F dX9_arrives_93 rfl ?_
      exact r_iret F Rt dX9_arrives_94 (by decide) ⟨by rw [N_an, if_neg b_5], rfl, by rw [N_av, if_neg b_5], rfl⟩
    refine r_iload_n F rfl rfl dX9_arrives_43 rfl ?_
    refine r_aload_n F rfl rfl dX9_arrives_44 rfl ?_
    refine r_getR F f_X9_7 (hM.1) rfl dX9_arrives_45 rfl ?_
    refine r_bipush F (by decide) dX9_arrives_48 rfl ?_
    refine r_iald F (ja_LM_1 hM) (by omega) (by omega) (by decide) dX9_arrives_50 rfl ?_
    refine r_eqz (z := ((N_be v) 11)) (by rw [ja_rw_s, show Int.toNat 11 = 11 from rfl, ja_rs_n (by omega)]) ?_
    refine r_icmp_ge F (tgt := 58) ⟨by omega, by omega⟩ ⟨by omega, by omega⟩ dX9_arrives_51 rfl (by decide) (fun h_51 => ?_) (fun h_51 => ?_)
    ·
      refine r_iconst F dX9_arrives_58 rfl ?_
      refine r_eqz (z := if x < N_be v 11 then 1 else 0) (by first | rw [if_pos (by omega)] | rw [if_neg (by omega)]) ?_
      exact J59
    ·
      refine r_iconst F dX9_arrives_54 rfl ?_
      refine r_goto F (tgt := 59) dX9_arrives_55 (by decide) ?_
      refine r_eqz (z := if x < N_be v 11 then 1 else 0) (by first | rw [if_pos (by omega)] | rw [if_neg (by omega)]) ?_
      exact J59
  ·
    have b_5 : (N_kn v x) := ja_b_1 h_5
    refine r_aload_n F rfl rfl dX9_arrives_8 rfl ?_
    refine r_getR F f_X9_7 (hM.1) rfl dX9_arrives_9 rfl ?_
    refine r_bipush F (by decide) dX9_arrives_12 rfl ?_
    refine r_dup2 F rfl rfl dX9_arrives_14 rfl ?_
    refine r_iald F (ja_LM_1 hM) (by omega) (by omega) (by decide) dX9_arrives_15 rfl ?_
    refine r_eqz (z := (v 18)) (by rw [ja_rw_s, show Int.toNat 18 = 18 from rfl]) ?_
    refine r_iconst F dX9_arrives_16 rfl ?_
    refine r_iadd F dX9_arrives_17 rfl ?_
    refine r_iast F (ja_LM_1 hM) (by omega) (by omega) (by decide) dX9_arrives_18 rfl ?_
    refine r_mem (mem' := ja_rw G (m + 1) (ja_rs v 18 ((v 18) + 1))) (ja_rw_up _ _ _ _ _) ?_
    refine r_iconst F dX9_arrives_19 rfl ?_
    exact r_iret F Rt dX9_arrives_20 (by decide) ⟨by rw [N_an, if_pos b_5], rfl, by rw [N_av, if_pos b_5], rfl⟩
abbrev rm_X9_arrivesParity : Room := { frames := 5, cells := 0, slots := 0, locals := 119 }
set_option maxRecDepth 100000 in
set_option maxHeartbeats 800000 in
theorem c_X9_arrivesParity (l : Launch) (D : va_G) (cA : Nat → ClassId) (B : Nat) {lay : ja_Y} {n : Nat} {m : Nat} {G : ja_M} {v : Nat → Int} (hM : ja_LM lay m) {r k i : Int} {t : Int} (hO : N_O v t) (ht : t ≤ 900000) (hr : 0 ≤ r ∧ r ≤ 1) (hk : N_hB v k) (hi : 0 ≤ i ∧ i ≤ 6) : ja_Mt l D cA B yX9_arrivesParity cX9_arrivesParity 5 (some .int) rm_X9_arrivesParity [.ref m, .int (ja_I r), .int (ja_I k), .int (ja_I i)] lay (ja_rw G (m + 1) v) n (ja_rd lay (ja_rw G (m + 1) (N_qv v r k i)) n (some (.int (ja_I (N_qn v r k i))))) := by
  refine ja_enter [some (.ref m), some (.int (ja_I r)), some (.int (ja_I k)), some (.int (ja_I i)), none] (by decide) (Nat.le_of_ble_eq_true rfl) (fun q hq => hq) (fun C F Rt GC hnm => ?_)
  have hR := hO.1
  have hS := hR.S
  have hC := hR.C
  obtain ⟨o1, o2, o3, o4, o5, o6, o7⟩ := id hO.2.1
  have hp0 := N_pk_in (r := r) hS hk hi
  have hpr := hR.K (j := (N_pk v r k i).toNat) (by omega) (by omega)
  obtain ⟨hw, hwk, hws⟩ := N_qw_O (r := r) hO ht hk hi
  refine r_aload_n F rfl rfl dX9_arrivesParity_0 rfl ?_
  refine r_iload_n F rfl rfl dX9_arrivesParity_1 rfl ?_
  refine r_iload_n F rfl rfl dX9_arrivesParity_2 rfl ?_
  refine r_iload_n F rfl rfl dX9_arrivesParity_3 rfl ?_
  refine r_callV F GC (c_X9_packet _ _ _ _ hM ⟨by omega, by omega⟩ hS hk ⟨by omega, by omega⟩) v_X9_67 rfl (hM.1) rfl (by decide) (by decide) (Nat.le_of_ble_eq_true rfl) rfl dX9_arrivesParity_4 rfl (fun v lay' mem' n' hp => ?_)
  obtain ⟨q1, q2, q3, q4⟩ := hp
  subst q1; subst q2; subst q3; subst q4
  refine r_ist4 F (by decide) rfl dX9_arrivesParity_7 rfl ?_
  refine r_aload_n F rfl rfl dX9_arrivesParity_9 rfl ?_
  refine r_getR F f_X9_7 (hM.1) rfl dX9_arrivesParity_10 rfl ?_
  refine r_iload F rfl dX9_arrivesParity_13 rfl ?_
  refine r_iald F (ja_LM_1 hM) (by omega) (by omega) (by decide) dX9_arrivesParity_15 rfl ?_
  refine r_eqz (z := (v (Int.toNat (N_pk v r k i)))) (by rw [ja_rw_s]) ?_
  refine r_iconst F dX9_arrivesParity_16 rfl ?_
  refine r_icmp_ne F (tgt := 33) ⟨by omega, by omega⟩ ⟨by omega, by omega⟩ dX9_arrivesParity_17 rfl (by decide) (fun h_17 => ?_) (fun h_17 => ?_)
  ·
    refine r_aload_n F rfl rfl dX9_arrivesParity_33 rfl ?_
    refine r_callV F GC (c_X9_begins _ _ _ _ hM hR) v_X9_73 rfl (hM.1) rfl (by decide) (by decide) (Nat.le_of_ble_eq_true rfl) rfl dX9_arrivesParity_34 rfl (fun v lay' mem' n' hp => ?_)
    obtain ⟨q1, q2, q3, q4⟩ := hp
    subst q1; subst q2; subst q3; subst q4
    refine r_aload_n F rfl rfl dX9_arrivesParity_37 rfl ?_
    refine r_getR F f_X9_7 (hM.1) rfl dX9_arrivesParity_38 rfl ?_
    refine r_iload F rfl dX9_arrivesParity_41 rfl ?_
    refine r_iconst F dX9_arrivesParity_43 rfl ?_
    refine r_iast F (ja_LM_1 hM) (by omega) (by omega) (by decide) dX9_arrivesParity_44 rfl ?_
    refine r_mem (mem' := ja_rw G (m + 1) (ja_rs (N_be v) (Int.toNat (N_pk v r k i)) 1)) (ja_rw_up _ _ _ _ _) ?_
    refine r_mem (mem' := ja_rw G (m + 1) (N_qw v r k i)) rfl ?_
    refine r_aload_n F rfl rfl dX9_arrivesParity_45 rfl ?_
    refine r_iload_n F rfl rfl dX9_arrivesParity_46 rfl ?_
    refine r_iconst F dX9_arrivesParity_47 rfl ?_
    refine r_callV F GC (c_X9_restores _ _ _ _ hM hw.1 (hws.hB.mpr hk) ⟨by omega, by omega⟩) v_X9_80 rfl (hM.1) rfl (by decide) (by decide) (Nat.le_of_ble_eq_true rfl) rfl dX9_arrivesParity_48 rfl (fun v lay' mem' n' hp => ?_)
    obtain ⟨q1, q2, q3, q4⟩ := hp
    subst q1; subst q2; subst q3; subst q4
    exact r_iret F Rt dX9_arrivesParity_51 (by decide) ⟨by rw [N_qn, if_neg h_17], rfl, by rw [N_qv, if_neg h_17], rfl⟩
  ·
    have h1v : v (Int.toNat (N_pk v r k i)) = 1 := h_17
    refine r_aload_n F rfl rfl dX9_arrivesParity_20 rfl ?_
    refine r_getR F f_X9_7 (hM.1) rfl dX9_arrivesParity_21 rfl ?_
    refine r_bipush F (by decide) dX9_arrivesParity_24 rfl ?_
    refine r_dup2 F rfl rfl dX9_arrivesParity_26 rfl ?_
    refine r_iald F (ja_LM_1 hM) (by omega) (by omega) (by decide) dX9_arrivesParity_27 rfl ?_
    refine r_eqz (z := (v 18)) (by rw [ja_rw_s, show Int.toNat 18 = 18 from rfl]) ?_
    refine r_iconst F dX9_arrivesParity_28 rfl ?_
    refine r_iadd F dX9_arrivesParity_29 rfl ?_
    refine r_iast F (ja_LM_1 hM) (by omega) (by omega) (by decide) dX9_arrivesParity_30 rfl ?_
    refine r_mem (mem' := ja_rw G (m + 1) (ja_rs v 18 ((v 18) + 1))) (ja_rw_up _ _ _ _ _) ?_
    refine r_iconst F dX9_arrivesParity_31 rfl ?_
    exact r_iret F Rt dX9_arrivesParity_32 (by decide) ⟨by rw [N_qn, if_pos h1v], rfl, by rw [N_qv, if_pos h1v], rfl⟩
abbrev rm_X9_sorts : Room := { frames := 0, cells := 0, slots := 0, locals := 0 }
set_option maxRecDepth 100000 in
set_option maxHeartbeats 800000 in
theorem c_X9_sorts (l : Launch) (D : va_G) (cA : Nat → ClassId) (B : Nat) {lay : ja_Y} {n : Nat} {m : Nat} {G : ja_M} {v : Nat → Int} (hM : ja_LM lay m) (hR : N_R v) : ja_Mt l D cA B yX9_sorts cX9_sorts 3 none rm_X9_sorts [.ref m] lay (ja_rw G (m + 1) v) n (fun w lay' mem' n' => none = w ∧ lay = lay' ∧ n = n' ∧ ∃ G', N_g6 m G G' ∧ mem' = ja_rw G' (m + 1) v ∧ ∀ j : Nat, (j : Int) < v 24 → G' (m + 6) j = N_so v (v 24).toNat j) := by
  refine ja_enter [some (.ref m), none, none] (by decide) (Nat.le_of_ble_eq_true rfl) (fun q hq => hq) (fun C F Rt GC hnm => ?_)
  have hC := hR.C
  refine r_iconst F dX9_sorts_0 rfl ?_
  refine r_ist1 F (by decide) rfl dX9_sorts_1 rfl ?_
  have loop : ∀ (d c : Nat), c + d = (v 24).toNat → ∀ g : Nat → Int, (∀ j, j < c → g j = N_so v c j) → ja_W C 0 0 lay (ja_rw (ja_rw G (m + 6) g) (m + 1) v) n 2 [some (.ref m), some (.int (ja_I (c : Int))), none] [] := by
    intro d
    induction d with
    | zero =>
      intro c hc g hg
      refine r_iload_n F rfl rfl dX9_sorts_2 rfl ?_
      refine r_aload_n F rfl rfl dX9_sorts_3 rfl ?_
      refine r_getR F f_X9_7 (hM.1) rfl dX9_sorts_4 rfl ?_
      refine r_bipush F (by decide) dX9_sorts_7 rfl ?_
      refine r_iald F (ja_LM_1 hM) (by omega) (by omega) (by decide) dX9_sorts_9 rfl ?_
      refine r_eqz (z := (v 24)) (by rw [ja_rw_s, show Int.toNat 24 = 24 from rfl]) ?_
      refine r_icmp_ge F (tgt := 82) ⟨by omega, by omega⟩ ⟨by omega, by omega⟩ dX9_sorts_10 rfl (by decide) (fun h_10 => ?_) (fun h_10 => ?_)
      ·
        exact r_vret F Rt dX9_sorts_82 (by decide) ⟨rfl, rfl, rfl, _, fun q h6 => ja_rw_n h6, rfl, fun j hj => by rw [ja_rw_s, hg j (by omega), show (v 24).toNat = c by omega]⟩
      ·
        exfalso; omega
    | succ d ih =>
      intro c hc g hg
      have hwr := hR.W (j := (2372 + (c : Int)).toNat) (by omega) (by omega)
      refine r_iload_n F rfl rfl dX9_sorts_2 rfl ?_
      refine r_aload_n F rfl rfl dX9_sorts_3 rfl ?_
      refine r_getR F f_X9_7 (hM.1) rfl dX9_sorts_4 rfl ?_
      refine r_bipush F (by decide) dX9_sorts_7 rfl ?_
      refine r_iald F (ja_LM_1 hM) (by omega) (by omega) (by decide) dX9_sorts_9 rfl ?_
      refine r_eqz (z := (v 24)) (by rw [ja_rw_s, show Int.toNat 24 = 24 from rfl]) ?_
      refine r_icmp_ge F (tgt := 82) ⟨by omega, by omega⟩ ⟨by omega, by omega⟩ dX9_sorts_10 rfl (by decide) (fun h_10 => ?_) (fun h_10 => ?_)
      ·
        exfalso; omega
      ·
        refine r_iload_n F rfl rfl dX9_sorts_13 rfl ?_
        refine r_ist2 F (by decide) rfl dX9_sorts_14 rfl ?_
        have lpi : ∀ (h : Nat), h ≤ c → ∀ g1 : Nat → Int, (∀ j, j < h → ja_sm (g1 j)) → (T_ins g1 (v (2372 + (c : Int)).toNat) h = T_ins g (v (2372 + (c : Int)).toNat) c) → ja_W C 0 0 lay (ja_rw (ja_rw G (m + 6) g1) (m + 1) v) n 15 [some (.ref m), some (.int (ja_I (c : Int))), some (.int (ja_I (h : Int)))] [] := by
          intro h
          induction h with
          | zero =>
            intro hh g1 hs1 ht1
            refine r_iload_n F rfl rfl dX9_sorts_15 rfl ?_
            refine r_if_le F (tgt := 60) ⟨by omega, by omega⟩ dX9_sorts_16 rfl (by decide) (fun h_16 => ?_) (fun h_16 => ?_)
            ·
              refine r_aload_n F rfl rfl dX9_sorts_60 rfl ?_
              refine r_getR F f_X9_26 (hM.1) rfl dX9_sorts_61 rfl ?_
              refine r_iload_n F rfl rfl dX9_sorts_64 rfl ?_
              refine r_aload_n F rfl rfl dX9_sorts_65 rfl ?_
              refine r_getR F f_X9_7 (hM.1) rfl dX9_sorts_66 rfl ?_
              refine r_sipush F (by decide) dX9_sorts_69 rfl ?_
              refine r_iload_n F rfl rfl dX9_sorts_72 rfl ?_
              refine r_iadd F dX9_sorts_73 rfl ?_
              refine r_iald F (ja_LM_1 hM) (by omega) (by omega) (by decide) dX9_sorts_74 rfl ?_
              refine r_eqz (z := (v (Int.toNat (2372 + (c : Int))))) (by rw [ja_rw_s]) ?_
              refine r_iast F (ja_LM_6 hM) (by omega) (by omega) (by decide) dX9_sorts_75 rfl ?_
              refine r_mem (mem' := ja_rw (ja_up (ja_rw G (m + 6) g1) (m + 6) (Int.toNat (((0 : Nat)) : Int)) (v (Int.toNat (2372 + (c : Int))))) (m + 1) v) (ja_up_rw (by omega)) ?_
              refine r_inc1 F (by decide) rfl dX9_sorts_76 rfl ?_
              refine r_goto F (tgt := 2) dX9_sorts_79 (by decide) ?_
              rw [ja_rw_up, T_cast0]
              refine r_msk [true, true, false] rfl ?_
              have e2 : ja_rs g1 0 (v (2372 + (c : Int)).toNat) = T_ins g (v (2372 + (c : Int)).toNat) c := by
                rw [← ht1]
                rfl
              rw [e2]
              refine ih (c + 1) (by omega) _ (fun j hj => ?_)
              exact T_ins_c c _ _ hg j (by omega)
            ·
              exfalso; omega
          | succ h ihh =>
            intro hh g1 hs1 ht1
            have hg1 := hs1 h (by omega)
            obtain ⟨u1, u2⟩ := id hg1
            refine r_iload_n F rfl rfl dX9_sorts_15 rfl ?_
            refine r_if_le F (tgt := 60) ⟨by omega, by omega⟩ dX9_sorts_16 rfl (by decide) (fun h_16 => ?_) (fun h_16 => ?_)
            ·
              exfalso; omega
            ·
              refine r_aload_n F rfl rfl dX9_sorts_19 rfl ?_
              refine r_getR F f_X9_26 (hM.1) rfl dX9_sorts_20 rfl ?_
              refine r_iload_n F rfl rfl dX9_sorts_23 rfl ?_
              refine r_iconst F dX9_sorts_24 rfl ?_
              refine r_isub F dX9_sorts_25 rfl ?_
              refine r_iald F (ja_LM_6 hM) (by omega) (by omega) (by decide) dX9_sorts_26 rfl ?_
              refine r_eqz (z := (g1 h)) (by rw [ja_rw_n (by omega), ja_rw_s]; congr 1; omega) ?_
              refine r_aload_n F rfl rfl dX9_sorts_27 rfl ?_
              refine r_getR F f_X9_7 (hM.1) rfl dX9_sorts_28 rfl ?_
              refine r_sipush F (by decide) dX9_sorts_31 rfl ?_
              refine r_iload_n F rfl rfl dX9_sorts_34 rfl ?_
              refine r_iadd F dX9_sorts_35 rfl ?_
              refine r_iald F (ja_LM_1 hM) (by omega) (by omega) (by decide) dX9_sorts_36 rfl ?_
              refine r_eqz (z := (v (Int.toNat (2372 + (c : Int))))) (by rw [ja_rw_s]) ?_
              refine r_icmp_le F (tgt := 60) ⟨by omega, by omega⟩ ⟨by omega, by omega⟩ dX9_sorts_37 rfl (by decide) (fun h_37 => ?_) (fun h_37 => ?_)
              ·
                refine r_aload_n F rfl rfl dX9_sorts_60 rfl ?_
                refine r_getR F f_X9_26 (hM.1) rfl dX9_sorts_61 rfl ?_
                refine r_iload_n F rfl rfl dX9_sorts_64 rfl ?_
                refine r_aload_n F rfl rfl dX9_sorts_65 rfl ?_
                refine r_getR F f_X9_7 (hM.1) rfl dX9_sorts_66 rfl ?_
                refine r_sipush F (by decide) dX9_sorts_69 rfl ?_
                refine r_iload_n F rfl rfl dX9_sorts_72 rfl ?_
                refine r_iadd F dX9_sorts_73 rfl ?_
                refine r_iald F (ja_LM_1 hM) (by omega) (by omega) (by decide) dX9_sorts_74 rfl ?_
                refine r_eqz (z := (v (Int.toNat (2372 + (c : Int))))) (by rw [ja_rw_s]) ?_
                refine r_iast F (ja_LM_6 hM) (by omega) (by omega) (by decide) dX9_sorts_75 rfl ?_
                refine r_mem (mem' := ja_rw (ja_up (ja_rw G (m + 6) g1) (m + 6) (Int.toNat ((h + 1 : Nat) : Int)) (v (Int.toNat (2372 + (c : Int))))) (m + 1) v) (ja_up_rw (by omega)) ?_
                refine r_inc1 F (by decide) rfl dX9_sorts_76 rfl ?_
                refine r_goto F (tgt := 2) dX9_sorts_79 (by decide) ?_
                rw [ja_rw_up, show Int.toNat ((h + 1 : Nat) : Int) = h + 1 by omega]
                refine r_msk [true, true, false] rfl ?_
                have e2 : ja_rs g1 (h + 1) (v (2372 + (c : Int)).toNat) = T_ins g (v (2372 + (c : Int)).toNat) c := by
                  rw [← ht1]
                  simp only [T_ins]
                  rw [if_neg (by omega)]
                rw [e2]
                refine ih (c + 1) (by omega) _ (fun j hj => ?_)
                exact T_ins_c c _ _ hg j (by omega)
              ·
                refine r_aload_n F rfl rfl dX9_sorts_40 rfl ?_
                refine r_getR F f_X9_26 (hM.1) rfl dX9_sorts_41 rfl ?_
                refine r_iload_n F rfl rfl dX9_sorts_44 rfl ?_
                refine r_aload_n F rfl rfl dX9_sorts_45 rfl ?_
                refine r_getR F f_X9_26 (hM.1) rfl dX9_sorts_46 rfl ?_
                refine r_iload_n F rfl rfl dX9_sorts_49 rfl ?_
                refine r_iconst F dX9_sorts_50 rfl ?_
                refine r_isub F dX9_sorts_51 rfl ?_
                refine r_iald F (ja_LM_6 hM) (by omega) (by omega) (by decide) dX9_sorts_52 rfl ?_
                refine r_eqz (z := (g1 h)) (by rw [ja_rw_n (by omega), ja_rw_s]; congr 1; omega) ?_
                refine r_iast F (ja_LM_6 hM) (by omega) (by omega) (by decide) dX9_sorts_53 rfl ?_
                refine r_mem (mem' := ja_rw (ja_up (ja_rw G (m + 6) g1) (m + 6) (Int.toNat ((h + 1 : Nat) : Int)) (g1 h)) (m + 1) v) (ja_up_rw (by omega)) ?_
                refine r_inc2 F (by decide) rfl dX9_sorts_54 rfl ?_
                refine r_goto F (tgt := 15) dX9_sorts_57 (by decide) ?_
                rw [ja_rw_up, show Int.toNat ((h + 1 : Nat) : Int) = h + 1 by omega, show ((h + 1 : Nat) : Int) + (-1) = (h : Int) by omega]
                refine ihh (by omega) _ (fun j hj => by rw [ja_rs_n (by omega)]; exact hs1 j (by omega)) ?_
                rw [← ht1]; simp only [T_ins]; rw [if_pos (by omega)]
        exact lpi c (by omega) g (fun j hj => by rw [hg j hj]; exact N_so_in hR c j (by omega)) rfl
  have h0 := loop (v 24).toNat 0 (by omega) (G (m + 6)) (fun j hj => by omega)
  rw [ja_rw_self] at h0
  exact h0
end
section
abbrev rm_X9_targetNow : Room := { frames := 1, cells := 0, slots := 0, locals := 22 }
set_option maxRecDepth 100000 in
set_option maxHeartbeats 800000 in
theorem c_X9_targetNow (l : Launch) (D : va_G) (cA : Nat → ClassId) (B : Nat) {lay : ja_Y} {n : Nat} {m : Nat} {G : ja_M} {v : Nat → Int} (hM : ja_LM lay m) (hR : N_R v) : ja_Mt l D cA B yX9_targetNow cX9_targetNow 3 (some .int) rm_X9_targetNow [.ref m] lay (ja_rw G (m + 1) v) n (fun w lay' mem' n' => some (.int (ja_I (N_tg v))) = w ∧ lay = lay' ∧ n = n' ∧ ∃ G', N_g6 m G G' ∧ mem' = ja_rw G' (m + 1) (v)) := by
  refine ja_enter [some (.ref m), none, none] (by decide) (Nat.le_of_ble_eq_true rfl) (fun q hq => hq) (fun C F Rt GC hnm => ?_)
  have hC := hR.C
  have hS := hR.S
  have hmq := ja_mulb (a := v 6) (A := 100) (b := v 24) (B := 16) (by omega) (by omega) (by omega) (by omega)
  refine r_aload_n F rfl rfl dX9_targetNow_0 rfl ?_
  refine r_getR F f_X9_7 (hM.1) rfl dX9_targetNow_1 rfl ?_
  refine r_bipush F (by decide) dX9_targetNow_4 rfl ?_
  refine r_iald F (ja_LM_1 hM) (by omega) (by omega) (by decide) dX9_targetNow_6 rfl ?_
  refine r_eqz (z := (v 24)) (by rw [ja_rw_s, show Int.toNat 24 = 24 from rfl]) ?_
  refine r_ist1 F (by decide) rfl dX9_targetNow_7 rfl ?_
  refine r_iload_n F rfl rfl dX9_targetNow_8 rfl ?_
  refine r_if_ne F (tgt := 20) ⟨by omega, by omega⟩ dX9_targetNow_9 rfl (by decide) (fun h_9 => ?_) (fun h_9 => ?_)
  ·
    refine r_aload_n F rfl rfl dX9_targetNow_20 rfl ?_
    refine r_callV F GC (c_X9_sorts _ _ _ _ hM hR) v_X9_98 rfl (hM.1) rfl (by decide) (by decide) (Nat.le_of_ble_eq_true rfl) rfl dX9_targetNow_21 rfl (fun v lay' mem' n' hp => ?_)
    obtain ⟨q1, q2, q3, G1, hG1, q4, hso⟩ := hp
    subst q1; subst q2; subst q3; subst q4
    refine r_aload_n F rfl rfl dX9_targetNow_24 rfl ?_
    refine r_getR F f_X9_7 (hM.1) rfl dX9_targetNow_25 rfl ?_
    refine r_bipush F (by decide) dX9_targetNow_28 rfl ?_
    refine r_iald F (ja_LM_1 hM) (by omega) (by omega) (by decide) dX9_targetNow_30 rfl ?_
    refine r_eqz (z := (v 6)) (by rw [ja_rw_s, show Int.toNat 6 = 6 from rfl]) ?_
    refine r_iload_n F rfl rfl dX9_targetNow_31 rfl ?_
    refine r_imul F dX9_targetNow_32 rfl ?_
    refine r_bipush F (by decide) dX9_targetNow_33 rfl ?_
    refine r_iadd F dX9_targetNow_35 rfl ?_
    refine r_bipush F (by decide) dX9_targetNow_36 rfl ?_
    have hq1 := Int.mul_le_mul_of_nonneg_right (show v 6 ≤ 100 by omega) (show 0 ≤ v 24 by omega)
    have hq2 := Int.mul_le_mul_of_nonneg_right (show 1 ≤ v 6 by omega) (show 0 ≤ v 24 by omega)
    refine r_idivP F ⟨by omega, by omega⟩ ⟨by omega, by omega⟩ (by omega) (by omega) dX9_targetNow_38 rfl ?_
    refine r_ist2 F (by decide) rfl dX9_targetNow_39 rfl ?_
    refine r_aload_n F rfl rfl dX9_targetNow_40 rfl ?_
    refine r_getR F f_X9_26 (hM.1) rfl dX9_targetNow_41 rfl ?_
    refine r_iload_n F rfl rfl dX9_targetNow_44 rfl ?_
    refine r_iconst F dX9_targetNow_45 rfl ?_
    refine r_isub F dX9_targetNow_46 rfl ?_
    refine r_iald F (ja_LM_6 hM) (by omega) (by omega) (by decide) dX9_targetNow_47 rfl ?_
    refine r_eqz (z := (N_so v (v 24).toNat ((v 6 * v 24 + 99) / 100 - 1).toNat)) (by rw [ja_rw_n (by omega)]; exact hso _ (by omega)) ?_
    refine r_aload_n F rfl rfl dX9_targetNow_48 rfl ?_
    refine r_getR F f_X9_26 (hM.1) rfl dX9_targetNow_49 rfl ?_
    refine r_iconst F dX9_targetNow_52 rfl ?_
    refine r_iald F (ja_LM_6 hM) (by omega) (by omega) (by decide) dX9_targetNow_53 rfl ?_
    refine r_eqz (z := (N_so v (v 24).toNat 0)) (by rw [ja_rw_n (by omega)]; exact hso 0 (by omega)) ?_
    refine r_isub F dX9_targetNow_54 rfl ?_
    refine r_aload_n F rfl rfl dX9_targetNow_55 rfl ?_
    refine r_getR F f_X9_7 (hM.1) rfl dX9_targetNow_56 rfl ?_
    refine r_bipush F (by decide) dX9_targetNow_59 rfl ?_
    refine r_iald F (ja_LM_1 hM) (by omega) (by omega) (by decide) dX9_targetNow_61 rfl ?_
    refine r_eqz (z := (v 7)) (by rw [ja_rw_s, show Int.toNat 7 = 7 from rfl]) ?_
    refine r_iadd F dX9_targetNow_62 rfl ?_
    exact r_iret F Rt dX9_targetNow_63 (by decide) ⟨by rw [N_tg, if_neg h_9], rfl, rfl, G1, hG1, rfl⟩
  ·
    refine r_aload_n F rfl rfl dX9_targetNow_12 rfl ?_
    refine r_getR F f_X9_7 (hM.1) rfl dX9_targetNow_13 rfl ?_
    refine r_bipush F (by decide) dX9_targetNow_16 rfl ?_
    refine r_iald F (ja_LM_1 hM) (by omega) (by omega) (by decide) dX9_targetNow_18 rfl ?_
    refine r_eqz (z := (v 7)) (by rw [ja_rw_s, show Int.toNat 7 = 7 from rfl]) ?_
    exact r_iret F Rt dX9_targetNow_19 (by decide) ⟨by rw [N_tg, if_pos h_9], rfl, rfl, G, fun _ _ => rfl, rfl⟩
abbrev rm_X9_levelFrom : Room := { frames := 1, cells := 0, slots := 0, locals := 21 }
set_option maxRecDepth 100000 in
set_option maxHeartbeats 800000 in
theorem c_X9_levelFrom (l : Launch) (D : va_G) (cA : Nat → ClassId) (B : Nat) {lay : ja_Y} {n : Nat} {m : Nat} {G : ja_M} {v : Nat → Int} (hM : ja_LM lay m) {x : Int} (hR : N_R v) (hx : 0 ≤ x ∧ x ≤ 1000) : ja_Mt l D cA B yX9_levelFrom cX9_levelFrom 3 (some .int) rm_X9_levelFrom [.ref m, .int (ja_I x)] lay (ja_rw G (m + 1) v) n (ja_rd lay (ja_rw G (m + 1) v) n (some (.int (ja_I (N_lv v x))))) := by
  refine ja_enter [some (.ref m), some (.int (ja_I x)), none] (by decide) (Nat.le_of_ble_eq_true rfl) (fun q hq => hq) (fun C F Rt GC hnm => ?_)
  refine r_iload_n F rfl rfl dX9_levelFrom_0 rfl ?_
  refine r_ist2 F (by decide) rfl dX9_levelFrom_1 rfl ?_
  have loop : ∀ (d : Nat) (z : Int), z + d = 1000 → x ≤ z → N_fo v z d = N_fo v x (1000 - x).toNat → ja_W C 0 0 lay (ja_rw G (m + 1) v) n 2 [some (.ref m), some (.int (ja_I x)), some (.int (ja_I z))] [] := by
    intro d
    induction d with
    | zero =>
      intro z hz hxz hl
      refine r_iload_n F rfl rfl dX9_levelFrom_2 rfl ?_
      refine r_sipush F (by decide) dX9_levelFrom_3 rfl ?_
      refine r_icmp_gt F (tgt := 23) ⟨by omega, by omega⟩ ⟨by omega, by omega⟩ dX9_levelFrom_6 rfl (by decide) (fun h_6 => ?_) (fun h_6 => ?_)
      ·
        replace hl : z = N_fo v x (1000 - x).toNat := hl
        refine r_aload_n F rfl rfl dX9_levelFrom_23 rfl ?_
        refine r_getR F f_X9_7 (hM.1) rfl dX9_levelFrom_24 rfl ?_
        refine r_iconst F dX9_levelFrom_27 rfl ?_
        refine r_iald F (ja_LM_1 hM) (by omega) (by omega) (by decide) dX9_levelFrom_28 rfl ?_
        refine r_eqz (z := (v 0)) (by rw [ja_rw_s, show Int.toNat 0 = 0 from rfl]) ?_
        refine r_iload_n F rfl rfl dX9_levelFrom_29 rfl ?_
        refine r_iload_n F rfl rfl dX9_levelFrom_30 rfl ?_
        refine r_icmp_le F (tgt := 40) ⟨by omega, by omega⟩ ⟨by omega, by omega⟩ dX9_levelFrom_31 rfl (by decide) (fun h_31 => ?_) (fun h_31 => ?_)
        ·
          refine r_iconst F dX9_levelFrom_40 rfl ?_
          refine r_imul F dX9_levelFrom_41 rfl ?_
          exact r_iret F Rt dX9_levelFrom_42 (by decide) ⟨by rw [N_lv, ← hl]; first | rw [if_pos (by omega)] | rw [if_neg (by omega)], rfl, rfl, rfl⟩
        ·
          refine r_iload_n F rfl rfl dX9_levelFrom_34 rfl ?_
          refine r_iload_n F rfl rfl dX9_levelFrom_35 rfl ?_
          refine r_isub F dX9_levelFrom_36 rfl ?_
          refine r_goto F (tgt := 41) dX9_levelFrom_37 (by decide) ?_
          refine r_imul F dX9_levelFrom_41 rfl ?_
          exact r_iret F Rt dX9_levelFrom_42 (by decide) ⟨by rw [N_lv, ← hl]; first | rw [if_pos (by omega)] | rw [if_neg (by omega)], rfl, rfl, rfl⟩
      ·
        exfalso; omega
    | succ d ih =>
      intro z hz hxz hl
      refine r_iload_n F rfl rfl dX9_levelFrom_2 rfl ?_
      refine r_sipush F (by decide) dX9_levelFrom_3 rfl ?_
      refine r_icmp_gt F (tgt := 23) ⟨by omega, by omega⟩ ⟨by omega, by omega⟩ dX9_levelFrom_6 rfl (by decide) (fun h_6 => ?_) (fun h_6 => ?_)
      ·
        exfalso; omega
      ·
        refine r_aload_n F rfl rfl dX9_levelFrom_9 rfl ?_
        refine r_iload_n F rfl rfl dX9_levelFrom_10 rfl ?_
        refine r_callV F GC (c_X9_isKnown _ _ _ _ hM hR ⟨by omega, by omega⟩) v_X9_59 rfl (hM.1) rfl (by decide) (by decide) (Nat.le_of_ble_eq_true rfl) rfl dX9_levelFrom_11 rfl (fun v lay' mem' n' hp => ?_)
        obtain ⟨q1, q2, q3, q4⟩ := hp
        subst q1; subst q2; subst q3; subst q4
        refine r_if_eq F (tgt := 23) ja_b_in dX9_levelFrom_14 rfl (by decide) (fun h_14 => ?_) (fun h_14 => ?_)
        ·
          have b_14 : ¬ (N_kn v z) := ja_b_0.mp h_14
          replace hl : z = N_fo v x (1000 - x).toNat := by rw [← hl]; simp only [N_fo]; rw [if_neg b_14]
          refine r_aload_n F rfl rfl dX9_levelFrom_23 rfl ?_
          refine r_getR F f_X9_7 (hM.1) rfl dX9_levelFrom_24 rfl ?_
          refine r_iconst F dX9_levelFrom_27 rfl ?_
          refine r_iald F (ja_LM_1 hM) (by omega) (by omega) (by decide) dX9_levelFrom_28 rfl ?_
          refine r_eqz (z := (v 0)) (by rw [ja_rw_s, show Int.toNat 0 = 0 from rfl]) ?_
          refine r_iload_n F rfl rfl dX9_levelFrom_29 rfl ?_
          refine r_iload_n F rfl rfl dX9_levelFrom_30 rfl ?_
          refine r_icmp_le F (tgt := 40) ⟨by omega, by omega⟩ ⟨by omega, by omega⟩ dX9_levelFrom_31 rfl (by decide) (fun h_31 => ?_) (fun h_31 => ?_)
          ·
            refine r_iconst F dX9_levelFrom_40 rfl ?_
            refine r_imul F dX9_levelFrom_41 rfl ?_
            exact r_iret F Rt dX9_levelFrom_42 (by decide) ⟨by rw [N_lv, ← hl]; first | rw [if_pos (by omega)] | rw [if_neg (by omega)], rfl, rfl, rfl⟩
          ·
            refine r_iload_n F rfl rfl dX9_levelFrom_34 rfl ?_
            refine r_iload_n F rfl rfl dX9_levelFrom_35 rfl ?_
            refine r_isub F dX9_levelFrom_36 rfl ?_
            refine r_goto F (tgt := 41) dX9_levelFrom_37 (by decide) ?_
            refine r_imul F dX9_levelFrom_41 rfl ?_
            exact r_iret F Rt dX9_levelFrom_42 (by decide) ⟨by rw [N_lv, ← hl]; first | rw [if_pos (by omega)] | rw [if_neg (by omega)], rfl, rfl, rfl⟩
        ·
          have b_14 : (N_kn v z) := ja_b_1 h_14
          refine r_inc2 F (by decide) rfl dX9_levelFrom_17 rfl ?_
          refine r_goto F (tgt := 2) dX9_levelFrom_20 (by decide) ?_
          exact ih (z + 1) (by omega) (by omega) (by rw [← hl]; simp only [N_fo]; rw [if_pos b_14])
  exact loop (1000 - x).toNat x (by omega) (by omega) rfl
abbrev rm_X9_arrivesBySchedule : Room := { frames := 6, cells := 0, slots := 0, locals := 143 }
set_option maxRecDepth 100000 in
set_option maxHeartbeats 800000 in
theorem c_X9_arrivesBySchedule (l : Launch) (D : va_G) (cA : Nat → ClassId) (B : Nat) {lay : ja_Y} {n : Nat} {m : Nat} {G : ja_M} {v : Nat → Int} (hM : ja_LM lay m) {t : Int} (hO : N_O v t) (ht : t ≤ 900000)  : ja_Mt l D cA B yX9_arrivesBySchedule cX9_arrivesBySchedule 6 none rm_X9_arrivesBySchedule [.ref m] lay (ja_rw G (m + 1) v) n (ja_rd lay (ja_rw G (m + 1) (N_as v)) n (none)) := by
  refine ja_enter [some (.ref m), none, none, none, none, none] (by decide) (Nat.le_of_ble_eq_true rfl) (fun q hq => hq) (fun C F Rt GC hnm => ?_)
  have hR := hO.1
  have hS := hR.S
  have hC := hR.C
  obtain ⟨o1, o2, o3, o4, o5, o6, o7⟩ := id hO.2.1
  refine r_iconst F dX9_arrivesBySchedule_0 rfl ?_
  refine r_ist1 F (by decide) rfl dX9_arrivesBySchedule_1 rfl ?_
  refine r_aload_n F rfl rfl dX9_arrivesBySchedule_2 rfl ?_
  refine r_getR F f_X9_7 (hM.1) rfl dX9_arrivesBySchedule_3 rfl ?_
  refine r_bipush F (by decide) dX9_arrivesBySchedule_6 rfl ?_
  refine r_iald F (ja_LM_1 hM) (by omega) (by omega) (by decide) dX9_arrivesBySchedule_8 rfl ?_
  refine r_eqz (z := (v 25)) (by rw [ja_rw_s, show Int.toNat 25 = 25 from rfl]) ?_
  refine r_ist2 F (by decide) rfl dX9_arrivesBySchedule_9 rfl ?_
  refine r_iconst F dX9_arrivesBySchedule_10 rfl ?_
  refine r_ist3 F (by decide) rfl dX9_arrivesBySchedule_11 rfl ?_
  have loop : ∀ (d c : Nat), c + d = (v 25).toNat → ja_W C 0 0 lay (ja_rw G (m + 1) ((N_ab v c).2)) n 12 [some (.ref (m)), some (.int (ja_I ((N_ab v c).1))), some (.int (ja_I (v 25))), some (.int (ja_I ((c : Int)))), none, none] [] := by
    intro d
    induction d with
    | zero =>
      intro c hc
      obtain ⟨wO, ⟨l0, l1⟩, wk⟩ := N_ab_O hO ht c (by omega)
      have wC := wO.1.C
      have w25 := wk 25 (by omega) (by omega)
      refine r_iload_n F rfl rfl dX9_arrivesBySchedule_12 rfl ?_
      refine r_iload_n F rfl rfl dX9_arrivesBySchedule_13 rfl ?_
      refine r_icmp_ge F (tgt := 163) ⟨by omega, by omega⟩ ⟨by omega, by omega⟩ dX9_arrivesBySchedule_14 rfl (by decide) (fun h_14 => ?_) (fun h_14 => ?_)
      ·
        refine r_aload_n F rfl rfl dX9_arrivesBySchedule_163 rfl ?_
        refine r_getR F f_X9_7 (hM.1) rfl dX9_arrivesBySchedule_164 rfl ?_
        refine r_bipush F (by decide) dX9_arrivesBySchedule_167 rfl ?_
        refine r_iload_n F rfl rfl dX9_arrivesBySchedule_169 rfl ?_
        refine r_iast F (ja_LM_1 hM) (by omega) (by omega) (by decide) dX9_arrivesBySchedule_170 rfl ?_
        refine r_mem (mem' := ja_rw G (m + 1) (ja_rs ((N_ab v c).2) 25 (N_ab v c).1)) (ja_rw_up _ _ _ _ _) ?_
        exact r_vret F Rt dX9_arrivesBySchedule_171 (by decide) ⟨rfl, rfl, by rw [N_as, show (v 25).toNat = c by omega], rfl⟩
      ·
        exfalso; omega
    | succ d ih =>
      intro c hc
      obtain ⟨wO, ⟨l0, l1⟩, wk⟩ := N_ab_O hO ht c (by omega)
      have wC := wO.1.C
      have w25 := wk 25 (by omega) (by omega)
      have hpe := wO.2.2 (c : Int) (by omega) (by omega)
      have hp0 := wO.1.P (j := (2388 + 4 * (c : Int)).toNat) (by omega) (by omega)
      have hp1 := wO.1.P (j := (2388 + 4 * (c : Int) + 1).toNat) (by omega) (by omega)
      have hp3 := wO.1.P (j := (2388 + 4 * (c : Int) + 3).toNat) (by omega) (by omega)
      refine r_iload_n F rfl rfl dX9_arrivesBySchedule_12 rfl ?_
      refine r_iload_n F rfl rfl dX9_arrivesBySchedule_13 rfl ?_
      refine r_icmp_ge F (tgt := 163) ⟨by omega, by omega⟩ ⟨by omega, by omega⟩ dX9_arrivesBySchedule_14 rfl (by decide) (fun h_14 => ?_) (fun h_14 => ?_)
      ·
        exfalso; omega
      ·
        refine r_sipush F (by decide) dX9_arrivesBySchedule_17 rfl ?_
        refine r_iconst F dX9_arrivesBySchedule_20 rfl ?_
        refine r_iload_n F rfl rfl dX9_arrivesBySchedule_21 rfl ?_
        refine r_imul F dX9_arrivesBySchedule_22 rfl ?_
        refine r_iadd F dX9_arrivesBySchedule_23 rfl ?_
        refine r_ist4 F (by decide) rfl dX9_arrivesBySchedule_24 rfl ?_
        refine r_aload_n F rfl rfl dX9_arrivesBySchedule_26 rfl ?_
        refine r_getR F f_X9_7 (hM.1) rfl dX9_arrivesBySchedule_27 rfl ?_
        refine r_iload F rfl dX9_arrivesBySchedule_30 rfl ?_
        refine r_iconst F dX9_arrivesBySchedule_32 rfl ?_
        refine r_iadd F dX9_arrivesBySchedule_33 rfl ?_
        refine r_iald F (ja_LM_1 hM) (by omega) (by omega) (by decide) dX9_arrivesBySchedule_34 rfl ?_
        refine r_eqz (z := (((N_ab v c).2) (Int.toNat ((2388 + (4 * (c : Int))) + 3)))) (by rw [ja_rw_s]) ?_
        refine r_aload_n F rfl rfl dX9_arrivesBySchedule_35 rfl ?_
        refine r_getR F f_X9_7 (hM.1) rfl dX9_arrivesBySchedule_36 rfl ?_
        refine r_bipush F (by decide) dX9_arrivesBySchedule_39 rfl ?_
        refine r_iald F (ja_LM_1 hM) (by omega) (by omega) (by decide) dX9_arrivesBySchedule_41 rfl ?_
        refine r_eqz (z := (((N_ab v c).2) 9)) (by rw [ja_rw_s, show Int.toNat 9 = 9 from rfl]) ?_
        refine r_icmp_ne F (tgt := 114) ⟨by omega, by omega⟩ ⟨by omega, by omega⟩ dX9_arrivesBySchedule_42 rfl (by decide) (fun h_42 => ?_) (fun h_42 => ?_)
        ·
          refine r_iconst F dX9_arrivesBySchedule_114 rfl ?_
          refine r_ist5 F (by decide) rfl dX9_arrivesBySchedule_115 rfl ?_
          have lpi : ∀ (d e : Nat), e + d = 4 → ja_W C 0 0 lay (ja_rw G (m + 1) (N_c4 (N_ab v c).2 (2388 + 4 * (N_ab v c).1) (2388 + 4 * (c : Int)) e)) n 117 [some (.ref (m)), some (.int (ja_I ((N_ab v c).1))), some (.int (ja_I (v 25))), some (.int (ja_I ((c : Int)))), some (.int (ja_I ((2388 + (4 * (c : Int)))))), some (.int (ja_I ((e : Int))))] [] := by
            intro d
            induction d with
            | zero =>
              intro e he
              refine r_iload F rfl dX9_arrivesBySchedule_117 rfl ?_
              refine r_iconst F dX9_arrivesBySchedule_119 rfl ?_
              refine r_icmp_ge F (tgt := 154) ⟨by omega, by omega⟩ ⟨by omega, by omega⟩ dX9_arrivesBySchedule_120 rfl (by decide) (fun h_120 => ?_) (fun h_120 => ?_)
              ·
                obtain rfl : e = 4 := by omega
                refine r_inc1 F (by decide) rfl dX9_arrivesBySchedule_154 rfl ?_
                refine r_inc3 F (by decide) rfl dX9_arrivesBySchedule_157 rfl ?_
                refine r_goto F (tgt := 12) dX9_arrivesBySchedule_160 (by decide) ?_
                refine r_msk [true, true, true, true, false, false] rfl ?_
                have h0 := ih (c + 1) (by omega)
                simp only [N_ab] at h0
                first
                  | (rw [if_neg h_42] at h0; exact h0)
                  | (rw [if_pos h_42, if_neg h_52] at h0; exact h0)
                  | (rw [if_pos h_42, if_pos h_52] at h0; exact h0)
              ·
                exfalso; omega
            | succ d ihe =>
              intro e he
              refine r_iload F rfl dX9_arrivesBySchedule_117 rfl ?_
              refine r_iconst F dX9_arrivesBySchedule_119 rfl ?_
              refine r_icmp_ge F (tgt := 154) ⟨by omega, by omega⟩ ⟨by omega, by omega⟩ dX9_arrivesBySchedule_120 rfl (by decide) (fun h_120 => ?_) (fun h_120 => ?_)
              ·
                exfalso; omega
              ·
                refine r_aload_n F rfl rfl dX9_arrivesBySchedule_123 rfl ?_
                refine r_getR F f_X9_7 (hM.1) rfl dX9_arrivesBySchedule_124 rfl ?_
                refine r_sipush F (by decide) dX9_arrivesBySchedule_127 rfl ?_
                refine r_iconst F dX9_arrivesBySchedule_130 rfl ?_
                refine r_iload_n F rfl rfl dX9_arrivesBySchedule_131 rfl ?_
                refine r_imul F dX9_arrivesBySchedule_132 rfl ?_
                refine r_iadd F dX9_arrivesBySchedule_133 rfl ?_
                refine r_iload F rfl dX9_arrivesBySchedule_134 rfl ?_
                refine r_iadd F dX9_arrivesBySchedule_136 rfl ?_
                refine r_aload_n F rfl rfl dX9_arrivesBySchedule_137 rfl ?_
                refine r_getR F f_X9_7 (hM.1) rfl dX9_arrivesBySchedule_138 rfl ?_
                refine r_iload F rfl dX9_arrivesBySchedule_141 rfl ?_
                refine r_iload F rfl dX9_arrivesBySchedule_143 rfl ?_
                refine r_iadd F dX9_arrivesBySchedule_145 rfl ?_
                refine r_iald F (ja_LM_1 hM) (by omega) (by omega) (by decide) dX9_arrivesBySchedule_146 rfl ?_
                refine r_eqz (z := ((N_c4 (N_ab v c).2 (2388 + 4 * (N_ab v c).1) (2388 + 4 * (c : Int)) e) (Int.toNat ((2388 + (4 * (c : Int))) + (e : Int))))) (by rw [ja_rw_s]) ?_
                refine r_iast F (ja_LM_1 hM) (by omega) (by omega) (by decide) dX9_arrivesBySchedule_147 rfl ?_
                refine r_mem (mem' := ja_rw G (m + 1) (ja_rs (N_c4 (N_ab v c).2 (2388 + 4 * (N_ab v c).1) (2388 + 4 * (c : Int)) e) (Int.toNat ((2388 + (4 * (N_ab v c).1)) + (e : Int))) ((N_c4 (N_ab v c).2 (2388 + 4 * (N_ab v c).1) (2388 + 4 * (c : Int)) e) (Int.toNat ((2388 + (4 * (c : Int))) + (e : Int)))))) (ja_rw_up _ _ _ _ _) ?_
                refine r_inc5 F (by decide) rfl dX9_arrivesBySchedule_148 rfl ?_
                refine r_goto F (tgt := 117) dX9_arrivesBySchedule_151 (by decide) ?_
                exact ihe (e + 1) (by omega)
          exact lpi (4) 0 (by omega)
        ·
          refine r_aload_n F rfl rfl dX9_arrivesBySchedule_45 rfl ?_
          refine r_getR F f_X9_7 (hM.1) rfl dX9_arrivesBySchedule_46 rfl ?_
          refine r_iload F rfl dX9_arrivesBySchedule_49 rfl ?_
          refine r_iald F (ja_LM_1 hM) (by omega) (by omega) (by decide) dX9_arrivesBySchedule_51 rfl ?_
          refine r_eqz (z := (((N_ab v c).2) (Int.toNat (2388 + (4 * (c : Int)))))) (by rw [ja_rw_s]) ?_
          refine r_if_ne F (tgt := 71) ⟨by omega, by omega⟩ dX9_arrivesBySchedule_52 rfl (by decide) (fun h_52 => ?_) (fun h_52 => ?_)
          ·
            refine r_aload_n F rfl rfl dX9_arrivesBySchedule_71 rfl ?_
            have J88 : ja_W C 0 0 lay (ja_rw G (m + 1) ((N_ab v c).2)) n 88 [some (.ref (m)), some (.int (ja_I ((N_ab v c).1))), some (.int (ja_I (v 25))), some (.int (ja_I ((c : Int)))), some (.int (ja_I ((2388 + (4 * (c : Int)))))), none] [.int (ja_I (if (N_ab v c).2 (2388 + 4 * (c : Int)).toNat = 1 then 1 else 0)), .ref (m)] := by
              refine r_aload_n F rfl rfl dX9_arrivesBySchedule_88 rfl ?_
              refine r_getR F f_X9_7 (hM.1) rfl dX9_arrivesBySchedule_89 rfl ?_
              refine r_iload F rfl dX9_arrivesBySchedule_92 rfl ?_
              refine r_iconst F dX9_arrivesBySchedule_94 rfl ?_
              refine r_iadd F dX9_arrivesBySchedule_95 rfl ?_
              refine r_iald F (ja_LM_1 hM) (by omega) (by omega) (by decide) dX9_arrivesBySchedule_96 rfl ?_
              refine r_eqz (z := (((N_ab v c).2) (Int.toNat ((2388 + (4 * (c : Int))) + 1)))) (by rw [ja_rw_s]) ?_
              refine r_aload_n F rfl rfl dX9_arrivesBySchedule_97 rfl ?_
              refine r_getR F f_X9_7 (hM.1) rfl dX9_arrivesBySchedule_98 rfl ?_
              refine r_iload F rfl dX9_arrivesBySchedule_101 rfl ?_
              refine r_iconst F dX9_arrivesBySchedule_103 rfl ?_
              refine r_iadd F dX9_arrivesBySchedule_104 rfl ?_
              refine r_iald F (ja_LM_1 hM) (by omega) (by omega) (by decide) dX9_arrivesBySchedule_105 rfl ?_
              refine r_eqz (z := (((N_ab v c).2) (Int.toNat ((2388 + (4 * (c : Int))) + 2)))) (by rw [ja_rw_s]) ?_
              refine r_callV F GC (c_X9_arrivesParity _ _ _ _ hM wO ht (by split <;> omega) (hpe.2.2 h_52).1 (N_hP_6 wO.1.S (hpe.2.2 h_52))) v_X9_95 rfl (hM.1) rfl (by decide) (by decide) (Nat.le_of_ble_eq_true rfl) rfl dX9_arrivesBySchedule_106 rfl (fun v lay' mem' n' hp => ?_)
              obtain ⟨q1, q2, q3, q4⟩ := hp
              subst q1; subst q2; subst q3; subst q4
              refine r_ist5 F (by decide) rfl dX9_arrivesBySchedule_109 rfl ?_
              refine r_goto F (tgt := 157) dX9_arrivesBySchedule_111 (by decide) ?_
              refine r_inc3 F (by decide) rfl dX9_arrivesBySchedule_157 rfl ?_
              refine r_goto F (tgt := 12) dX9_arrivesBySchedule_160 (by decide) ?_
              refine r_msk [true, true, true, true, false, false] rfl ?_
              have h0 := ih (c + 1) (by omega)
              simp only [N_ab] at h0
              first
                | (rw [if_neg h_42] at h0; exact h0)
                | (rw [if_pos h_42, if_neg h_52] at h0; exact h0)
                | (rw [if_pos h_42, if_pos h_52] at h0; exact h0)
            refine r_aload_n F rfl rfl dX9_arrivesBySchedule_72 rfl ?_
            refine r_getR F f_X9_7 (hM.1) rfl dX9_arrivesBySchedule_73 rfl ?_
            refine r_iload F rfl dX9_arrivesBySchedule_76 rfl ?_
            refine r_iald F (ja_LM_1 hM) (by omega) (by omega) (by decide) dX9_arrivesBySchedule_78 rfl ?_
            refine r_eqz (z := (((N_ab v c).2) (Int.toNat (2388 + (4 * (c : Int)))))) (by rw [ja_rw_s]) ?_
            refine r_iconst F dX9_arrivesBySchedule_79 rfl ?_
            refine r_icmp_ne F (tgt := 87) ⟨by omega, by omega⟩ ⟨by omega, by omega⟩ dX9_arrivesBySchedule_80 rfl (by decide) (fun h_80 => ?_) (fun h_80 => ?_)
            ·
              refine r_iconst F dX9_arrivesBySchedule_87 rfl ?_
              refine r_eqz (z := if (N_ab v c).2 (2388 + 4 * (c : Int)).toNat = 1 then 1 else 0) (by first | rw [if_pos (by omega)] | rw [if_neg (by omega)]) ?_
              exact J88
            ·
              refine r_iconst F dX9_arrivesBySchedule_83 rfl ?_
              refine r_goto F (tgt := 88) dX9_arrivesBySchedule_84 (by decide) ?_
              refine r_eqz (z := if (N_ab v c).2 (2388 + 4 * (c : Int)).toNat = 1 then 1 else 0) (by first | rw [if_pos (by omega)] | rw [if_neg (by omega)]) ?_
              exact J88
          ·
            refine r_aload_n F rfl rfl dX9_arrivesBySchedule_55 rfl ?_
            refine r_aload_n F rfl rfl dX9_arrivesBySchedule_56 rfl ?_
            refine r_getR F f_X9_7 (hM.1) rfl dX9_arrivesBySchedule_57 rfl ?_
            refine r_iload F rfl dX9_arrivesBySchedule_60 rfl ?_
            refine r_iconst F dX9_arrivesBySchedule_62 rfl ?_
            refine r_iadd F dX9_arrivesBySchedule_63 rfl ?_
            refine r_iald F (ja_LM_1 hM) (by omega) (by omega) (by decide) dX9_arrivesBySchedule_64 rfl ?_
            refine r_eqz (z := (((N_ab v c).2) (Int.toNat ((2388 + (4 * (c : Int))) + 1)))) (by rw [ja_rw_s]) ?_
            refine r_callV F GC (c_X9_arrives _ _ _ _ hM wO ht ⟨hp1.1, hpe.2.1 h_52⟩) v_X9_87 rfl (hM.1) rfl (by decide) (by decide) (Nat.le_of_ble_eq_true rfl) rfl dX9_arrivesBySchedule_65 rfl (fun v lay' mem' n' hp => ?_)
            obtain ⟨q1, q2, q3, q4⟩ := hp
            subst q1; subst q2; subst q3; subst q4
            refine r_goto F (tgt := 109) dX9_arrivesBySchedule_68 (by decide) ?_
            refine r_ist5 F (by decide) rfl dX9_arrivesBySchedule_109 rfl ?_
            refine r_goto F (tgt := 157) dX9_arrivesBySchedule_111 (by decide) ?_
            refine r_inc3 F (by decide) rfl dX9_arrivesBySchedule_157 rfl ?_
            refine r_goto F (tgt := 12) dX9_arrivesBySchedule_160 (by decide) ?_
            refine r_msk [true, true, true, true, false, false] rfl ?_
            have h0 := ih (c + 1) (by omega)
            simp only [N_ab] at h0
            first
              | (rw [if_neg h_42] at h0; exact h0)
              | (rw [if_pos h_42, if_neg h_52] at h0; exact h0)
              | (rw [if_pos h_42, if_pos h_52] at h0; exact h0)
  exact loop ((v 25).toNat) 0 (by omega)
abbrev rm_X9_lagOfFrame : Room := { frames := 1, cells := 0, slots := 0, locals := 20 }
set_option maxRecDepth 100000 in
set_option maxHeartbeats 800000 in
theorem c_X9_lagOfFrame (l : Launch) (D : va_G) (cA : Nat → ClassId) (B : Nat) {lay : ja_Y} {n : Nat} {m : Nat} {G : ja_M} {v : Nat → Int} (hM : ja_LM lay m) {g : Nat → Int} (hR : N_R v) (hg : ∀ j, ja_sp (g j)) (hgx : ∀ j : Nat, (j : Int) < v 0 → G (m + 7) j = g j) : ja_Mt l D cA B yX9_lagOfFrame cX9_lagOfFrame 6 (some .int) rm_X9_lagOfFrame [.ref m] lay (ja_rw G (m + 1) v) n (ja_rd lay (ja_rw G (m + 1) v) n (some (.int (ja_I (P_lg g 1 (v 0 / 2 - 2).toNat).1)))) := by
  refine ja_enter [some (.ref m), none, none, none, none, none] (by decide) (Nat.le_of_ble_eq_true rfl) (fun q hq => hq) (fun C F Rt GC hnm => ?_)
  have hS0 := hR.S.1
  refine r_iconst F dX9_lagOfFrame_0 rfl ?_
  refine r_ist1 F (by decide) rfl dX9_lagOfFrame_1 rfl ?_
  refine r_iconst F dX9_lagOfFrame_2 rfl ?_
  refine r_ist2 F (by decide) rfl dX9_lagOfFrame_3 rfl ?_
  refine r_iconst F dX9_lagOfFrame_4 rfl ?_
  refine r_ist3 F (by decide) rfl dX9_lagOfFrame_5 rfl ?_
  have loop : ∀ (d c : Nat), c + d = (v 0 / 2 - 2).toNat → ja_W C 0 0 lay (ja_rw G (m + 1) v) n 6 [some (.ref m), some (.int (ja_I (P_lg g 1 c).1)), some (.int (ja_I (P_lg g 1 c).2)), some (.int (ja_I ((c : Int) + 3))), none, none] [] := by
    intro d
    induction d with
    | zero =>
      intro c hc
      have b1 := P_lg_in (ex := 1) hg c (by omega)
      have b2 := P_dif_in hg (c + 3) (c + 3)
      have b3 := ja_mulb b2.1 (by omega : P_dif g (c + 3) (c + 3) ≤ 3400) (by omega : 0 ≤ (P_lg g 1 c).1) (by omega : (P_lg g 1 c).1 ≤ 16)
      have b4 := ja_mulb b1.2.1 b1.2.2 (by omega : 0 ≤ (c : Int) + 3) (by omega : (c : Int) + 3 ≤ 17)
      refine r_iload_n F rfl rfl dX9_lagOfFrame_6 rfl ?_
      refine r_aload_n F rfl rfl dX9_lagOfFrame_7 rfl ?_
      refine r_getR F f_X9_7 (hM.1) rfl dX9_lagOfFrame_8 rfl ?_
      refine r_iconst F dX9_lagOfFrame_11 rfl ?_
      refine r_iald F (ja_LM_1 hM) (by omega) (by omega) (by decide) dX9_lagOfFrame_12 rfl ?_
      refine r_eqz (z := (v 0)) (by rw [ja_rw_s, show Int.toNat 0 = 0 from rfl]) ?_
      refine r_iconst F dX9_lagOfFrame_13 rfl ?_
      refine r_idivP F ⟨by omega, by omega⟩ ⟨by omega, by omega⟩ (by omega) (by omega) dX9_lagOfFrame_14 rfl ?_
      refine r_icmp_gt F (tgt := 86) ⟨by omega, by omega⟩ ⟨by omega, by omega⟩ dX9_lagOfFrame_15 rfl (by decide) (fun h_15 => ?_) (fun h_15 => ?_)
      ·
        refine r_iload_n F rfl rfl dX9_lagOfFrame_86 rfl ?_
        exact r_iret F Rt dX9_lagOfFrame_87 (by decide) ⟨by rw [show (v 0 / 2 - 2).toNat = c by omega], rfl, rfl, rfl⟩
      ·
        exfalso; omega
    | succ d ih =>
      intro c hc
      have b1 := P_lg_in (ex := 1) hg c (by omega)
      have b2 := P_dif_in hg (c + 3) (c + 3)
      have b3 := ja_mulb b2.1 (by omega : P_dif g (c + 3) (c + 3) ≤ 3400) (by omega : 0 ≤ (P_lg g 1 c).1) (by omega : (P_lg g 1 c).1 ≤ 16)
      have b4 := ja_mulb b1.2.1 b1.2.2 (by omega : 0 ≤ (c : Int) + 3) (by omega : (c : Int) + 3 ≤ 17)
      refine r_iload_n F rfl rfl dX9_lagOfFrame_6 rfl ?_
      refine r_aload_n F rfl rfl dX9_lagOfFrame_7 rfl ?_
      refine r_getR F f_X9_7 (hM.1) rfl dX9_lagOfFrame_8 rfl ?_
      refine r_iconst F dX9_lagOfFrame_11 rfl ?_
      refine r_iald F (ja_LM_1 hM) (by omega) (by omega) (by decide) dX9_lagOfFrame_12 rfl ?_
      refine r_eqz (z := (v 0)) (by rw [ja_rw_s, show Int.toNat 0 = 0 from rfl]) ?_
      refine r_iconst F dX9_lagOfFrame_13 rfl ?_
      refine r_idivP F ⟨by omega, by omega⟩ ⟨by omega, by omega⟩ (by omega) (by omega) dX9_lagOfFrame_14 rfl ?_
      refine r_icmp_gt F (tgt := 86) ⟨by omega, by omega⟩ ⟨by omega, by omega⟩ dX9_lagOfFrame_15 rfl (by decide) (fun h_15 => ?_) (fun h_15 => ?_)
      ·
        exfalso; omega
      ·
        refine r_iconst F dX9_lagOfFrame_18 rfl ?_
        refine r_ist4 F (by decide) rfl dX9_lagOfFrame_19 rfl ?_
        refine r_iconst F dX9_lagOfFrame_21 rfl ?_
        refine r_ist5 F (by decide) rfl dX9_lagOfFrame_22 rfl ?_
        have lpd : ∀ (d e : Nat), e + d = (c + 3) → ja_W C 0 0 lay (ja_rw G (m + 1) (v)) n 24 [some (.ref (m)), some (.int (ja_I ((P_lg g 1 c).1))), some (.int (ja_I ((P_lg g 1 c).2))), some (.int (ja_I (((c : Int) + 3)))), some (.int (ja_I (P_dif g (c + 3) e))), some (.int (ja_I ((e : Int))))] [] := by
          intro d
          induction d with
          | zero =>
            intro e he
            refine r_iload F rfl dX9_lagOfFrame_24 rfl ?_
            refine r_iload_n F rfl rfl dX9_lagOfFrame_26 rfl ?_
            refine r_icmp_ge F (tgt := 61) ⟨by omega, by omega⟩ ⟨by omega, by omega⟩ dX9_lagOfFrame_27 rfl (by decide) (fun h_27 => ?_) (fun h_27 => ?_)
            ·
              obtain rfl : e = c + 3 := by omega
              refine r_iload_n F rfl rfl dX9_lagOfFrame_61 rfl ?_
              refine r_if_lt F (tgt := 75) ⟨by omega, by omega⟩ dX9_lagOfFrame_62 rfl (by decide) (fun h_62 => ?_) (fun h_62 => ?_)
              ·
                exfalso; omega
              ·
                refine r_iload F rfl dX9_lagOfFrame_65 rfl ?_
                refine r_iload_n F rfl rfl dX9_lagOfFrame_67 rfl ?_
                refine r_imul F dX9_lagOfFrame_68 rfl ?_
                refine r_iload_n F rfl rfl dX9_lagOfFrame_69 rfl ?_
                refine r_iload_n F rfl rfl dX9_lagOfFrame_70 rfl ?_
                refine r_imul F dX9_lagOfFrame_71 rfl ?_
                refine r_icmp_ge F (tgt := 80) ⟨by omega, by omega⟩ ⟨by omega, by omega⟩ dX9_lagOfFrame_72 rfl (by decide) (fun h_72 => ?_) (fun h_72 => ?_)
                ·
                  refine r_inc3 F (by decide) rfl dX9_lagOfFrame_80 rfl ?_
                  refine r_goto F (tgt := 6) dX9_lagOfFrame_83 (by decide) ?_
                  rw [show (c : Int) + 3 + 1 = ((c + 1 : Nat) : Int) + 3 by omega]
                  refine r_msk [true, true, true, true, false, false] rfl ?_
                  have h0 := ih (c + 1) (by omega)
                  first
                    | (rw [P_lg_a (by decide) h_72] at h0; exact h0)
                    | (rw [P_lg_b (by decide) h_72] at h0; exact h0)
                ·
                  refine r_iload_n F rfl rfl dX9_lagOfFrame_75 rfl ?_
                  refine r_ist1 F (by decide) rfl dX9_lagOfFrame_76 rfl ?_
                  refine r_iload F rfl dX9_lagOfFrame_77 rfl ?_
                  refine r_ist2 F (by decide) rfl dX9_lagOfFrame_79 rfl ?_
                  refine r_inc3 F (by decide) rfl dX9_lagOfFrame_80 rfl ?_
                  refine r_goto F (tgt := 6) dX9_lagOfFrame_83 (by decide) ?_
                  rw [show (c : Int) + 3 + 1 = ((c + 1 : Nat) : Int) + 3 by omega]
                  refine r_msk [true, true, true, true, false, false] rfl ?_
                  have h0 := ih (c + 1) (by omega)
                  first
                    | (rw [P_lg_a (by decide) h_72] at h0; exact h0)
                    | (rw [P_lg_b (by decide) h_72] at h0; exact h0)
            ·
              exfalso; omega
          | succ d ihe =>
            intro e he
            have u1 := hg e
            have u2 := hg (e + (c + 3))
            obtain ⟨u3, u4⟩ := id u1
            obtain ⟨u5, u6⟩ := id u2
            refine r_iload F rfl dX9_lagOfFrame_24 rfl ?_
            refine r_iload_n F rfl rfl dX9_lagOfFrame_26 rfl ?_
            refine r_icmp_ge F (tgt := 61) ⟨by omega, by omega⟩ ⟨by omega, by omega⟩ dX9_lagOfFrame_27 rfl (by decide) (fun h_27 => ?_) (fun h_27 => ?_)
            ·
              exfalso; omega
            ·
              refine r_iload F rfl dX9_lagOfFrame_30 rfl ?_
              refine r_aload_n F rfl rfl dX9_lagOfFrame_32 rfl ?_
              refine r_getR F f_X9_29 (hM.1) rfl dX9_lagOfFrame_33 rfl ?_
              refine r_iload F rfl dX9_lagOfFrame_36 rfl ?_
              refine r_iald F (ja_LM_7 hM) (by omega) (by omega) (by decide) dX9_lagOfFrame_38 rfl ?_
              refine r_eqz (z := (g e)) (by rw [ja_rw_n (by omega), hgx _ (by omega)]; congr 1 <;> omega) ?_
              refine r_aload_n F rfl rfl dX9_lagOfFrame_39 rfl ?_
              refine r_getR F f_X9_29 (hM.1) rfl dX9_lagOfFrame_40 rfl ?_
              refine r_iload_n F rfl rfl dX9_lagOfFrame_43 rfl ?_
              refine r_iload F rfl dX9_lagOfFrame_44 rfl ?_
              refine r_iadd F dX9_lagOfFrame_46 rfl ?_
              refine r_iald F (ja_LM_7 hM) (by omega) (by omega) (by decide) dX9_lagOfFrame_47 rfl ?_
              refine r_eqz (z := (g (e + (c + 3)))) (by rw [ja_rw_n (by omega), hgx _ (by omega)]; congr 1 <;> omega) ?_
              refine r_isub F dX9_lagOfFrame_48 rfl ?_
              refine r_callS F GC (c_X9_size _ _ _ _ ⟨by omega, by omega⟩) s_X9_101 rfl (by decide) (by decide) (Nat.le_of_ble_eq_true rfl) rfl dX9_lagOfFrame_49 rfl (fun v lay' mem' n' hp => ?_)
              obtain ⟨q1, q2, q3, q4⟩ := hp
              subst q1; subst q2; subst q3; subst q4
              refine r_iadd F dX9_lagOfFrame_52 rfl ?_
              refine r_ist4 F (by decide) rfl dX9_lagOfFrame_53 rfl ?_
              refine r_inc5 F (by decide) rfl dX9_lagOfFrame_55 rfl ?_
              refine r_goto F (tgt := 24) dX9_lagOfFrame_58 (by decide) ?_
              exact ihe (e + 1) (by omega)
        exact lpd ((c + 3)) 0 (by omega)
  refine r_iload_n F rfl rfl dX9_lagOfFrame_6 rfl ?_
  refine r_aload_n F rfl rfl dX9_lagOfFrame_7 rfl ?_
  refine r_getR F f_X9_7 (hM.1) rfl dX9_lagOfFrame_8 rfl ?_
  refine r_iconst F dX9_lagOfFrame_11 rfl ?_
  refine r_iald F (ja_LM_1 hM) (by omega) (by omega) (by decide) dX9_lagOfFrame_12 rfl ?_
  refine r_eqz (z := (v 0)) (by rw [ja_rw_s, show Int.toNat 0 = 0 from rfl]) ?_
  refine r_iconst F dX9_lagOfFrame_13 rfl ?_
  refine r_idivP F ⟨by omega, by omega⟩ ⟨by omega, by omega⟩ (by omega) (by omega) dX9_lagOfFrame_14 rfl ?_
  refine r_icmp_gt F (tgt := 86) ⟨by omega, by omega⟩ ⟨by omega, by omega⟩ dX9_lagOfFrame_15 rfl (by decide) (fun h_15 => ?_) (fun h_15 => ?_)
  ·
    exfalso; omega
  ·
    refine r_iconst F dX9_lagOfFrame_18 rfl ?_
    refine r_ist4 F (by decide) rfl dX9_lagOfFrame_19 rfl ?_
    refine r_iconst F dX9_lagOfFrame_21 rfl ?_
    refine r_ist5 F (by decide) rfl dX9_lagOfFrame_22 rfl ?_
    have lpd : ∀ (d e : Nat), e + d = 2 → ja_W C 0 0 lay (ja_rw G (m + 1) (v)) n 24 [some (.ref (m)), some (.int (ja_I (2))), some (.int (ja_I (-1))), some (.int (ja_I (2))), some (.int (ja_I (P_dif g 2 e))), some (.int (ja_I ((e : Int))))] [] := by
      intro d
      induction d with
      | zero =>
        intro e he
        refine r_iload F rfl dX9_lagOfFrame_24 rfl ?_
        refine r_iload_n F rfl rfl dX9_lagOfFrame_26 rfl ?_
        refine r_icmp_ge F (tgt := 61) ⟨by omega, by omega⟩ ⟨by omega, by omega⟩ dX9_lagOfFrame_27 rfl (by decide) (fun h_27 => ?_) (fun h_27 => ?_)
        ·
          obtain rfl : e = 2 := by omega
          refine r_iload_n F rfl rfl dX9_lagOfFrame_61 rfl ?_
          refine r_if_lt F (tgt := 75) ⟨by omega, by omega⟩ dX9_lagOfFrame_62 rfl (by decide) (fun h_62 => ?_) (fun h_62 => ?_)
          ·
            refine r_iload_n F rfl rfl dX9_lagOfFrame_75 rfl ?_
            refine r_ist1 F (by decide) rfl dX9_lagOfFrame_76 rfl ?_
            refine r_iload F rfl dX9_lagOfFrame_77 rfl ?_
            refine r_ist2 F (by decide) rfl dX9_lagOfFrame_79 rfl ?_
            refine r_inc3 F (by decide) rfl dX9_lagOfFrame_80 rfl ?_
            refine r_goto F (tgt := 6) dX9_lagOfFrame_83 (by decide) ?_
            refine r_msk [true, true, true, true, false, false] rfl ?_
            exact loop (v 0 / 2 - 2).toNat 0 (by omega)
          ·
            exfalso; omega
        ·
          exfalso; omega
      | succ d ihe =>
        intro e he
        have u1 := hg e
        have u2 := hg (e + 2)
        obtain ⟨u3, u4⟩ := id u1
        obtain ⟨u5, u6⟩ := id u2
        refine r_iload F rfl dX9_lagOfFrame_24 rfl ?_
        refine r_iload_n F rfl rfl dX9_lagOfFrame_26 rfl ?_
        refine r_icmp_ge F (tgt := 61) ⟨by omega, by omega⟩ ⟨by omega, by omega⟩ dX9_lagOfFrame_27 rfl (by decide) (fun h_27 => ?_) (fun h_27 => ?_)
        ·
          exfalso; omega
        ·
          refine r_iload F rfl dX9_lagOfFrame_30 rfl ?_
          refine r_aload_n F rfl rfl dX9_lagOfFrame_32 rfl ?_
          refine r_getR F f_X9_29 (hM.1) rfl dX9_lagOfFrame_33 rfl ?_
          refine r_iload F rfl dX9_lagOfFrame_36 rfl ?_
          refine r_iald F (ja_LM_7 hM) (by omega) (by omega) (by decide) dX9_lagOfFrame_38 rfl ?_
          refine r_eqz (z := (g e)) (by rw [ja_rw_n (by omega), hgx _ (by omega)]; congr 1 <;> omega) ?_
          refine r_aload_n F rfl rfl dX9_lagOfFrame_39 rfl ?_
          refine r_getR F f_X9_29 (hM.1) rfl dX9_lagOfFrame_40 rfl ?_
          refine r_iload_n F rfl rfl dX9_lagOfFrame_43 rfl ?_
          refine r_iload F rfl dX9_lagOfFrame_44 rfl ?_
          refine r_iadd F dX9_lagOfFrame_46 rfl ?_
          refine r_iald F (ja_LM_7 hM) (by omega) (by omega) (by decide) dX9_lagOfFrame_47 rfl ?_
          refine r_eqz (z := (g (e + 2))) (by rw [ja_rw_n (by omega), hgx _ (by omega)]; congr 1 <;> omega) ?_
          refine r_isub F dX9_lagOfFrame_48 rfl ?_
          refine r_callS F GC (c_X9_size _ _ _ _ ⟨by omega, by omega⟩) s_X9_101 rfl (by decide) (by decide) (Nat.le_of_ble_eq_true rfl) rfl dX9_lagOfFrame_49 rfl (fun v lay' mem' n' hp => ?_)
          obtain ⟨q1, q2, q3, q4⟩ := hp
          subst q1; subst q2; subst q3; subst q4
          refine r_iadd F dX9_lagOfFrame_52 rfl ?_
          refine r_ist4 F (by decide) rfl dX9_lagOfFrame_53 rfl ?_
          refine r_inc5 F (by decide) rfl dX9_lagOfFrame_55 rfl ?_
          refine r_goto F (tgt := 24) dX9_lagOfFrame_58 (by decide) ?_
          exact ihe (e + 1) (by omega)
    exact lpd (2) 0 (by omega)
abbrev rm_X9_mixed : Room := { frames := 0, cells := 0, slots := 0, locals := 0 }
set_option maxRecDepth 100000 in
set_option maxHeartbeats 800000 in
theorem c_X9_mixed (l : Launch) (D : va_G) (cA : Nat → ClassId) (B : Nat) {lay : ja_Y} {n : Nat} {mem : ja_M} {a b i p : Int} (ha : ja_sp a) (hb : ja_sp b) (hi : 0 ≤ i ∧ i ≤ p) (hp : 1 ≤ p ∧ p ≤ 1000) : ja_Mt l D cA B yX9_mixed cX9_mixed 4 (some .int) rm_X9_mixed [.int (ja_I a), .int (ja_I b), .int (ja_I i), .int (ja_I p)] lay (mem) n (ja_rd lay mem n (some (.int (ja_I (P_mx a b p i))))) := by
  refine ja_enter [some (.int (ja_I a)), some (.int (ja_I b)), some (.int (ja_I i)), some (.int (ja_I p))] (by decide) (Nat.le_of_ble_eq_true rfl) (fun q hq => hq) (fun C F Rt GC hnm => ?_)
  have hm := P_mxr ha hb hi hp.2
  refine r_iload_n F rfl rfl dX9_mixed_0 rfl ?_
  refine r_iload_n F rfl rfl dX9_mixed_1 rfl ?_
  refine r_iload_n F rfl rfl dX9_mixed_2 rfl ?_
  refine r_isub F dX9_mixed_3 rfl ?_
  refine r_imul F dX9_mixed_4 rfl ?_
  refine r_iload_n F rfl rfl dX9_mixed_5 rfl ?_
  refine r_iload_n F rfl rfl dX9_mixed_6 rfl ?_
  refine r_imul F dX9_mixed_7 rfl ?_
  refine r_iadd F dX9_mixed_8 rfl ?_
  refine r_iload_n F rfl rfl dX9_mixed_9 rfl ?_
  refine r_idiv F ⟨by omega, by omega⟩ ⟨by omega, by omega⟩ (by omega) dX9_mixed_10 rfl ?_
  exact r_iret F Rt dX9_mixed_11 (by decide) ⟨rfl, rfl, rfl, rfl⟩
abbrev rm_X9_gives : Room := { frames := 0, cells := 0, slots := 0, locals := 0 }
set_option maxRecDepth 100000 in
set_option maxHeartbeats 800000 in
theorem c_X9_gives (l : Launch) (D : va_G) (cA : Nat → ClassId) (B : Nat) {lay : ja_Y} {n : Nat} {m : Nat} {G : ja_M} {v : Nat → Int} (hM : ja_LM lay m) {z : Int} (hR : N_R v) : ja_Mt l D cA B yX9_gives cX9_gives 2 none rm_X9_gives [.ref m, .int (ja_I z)] lay (ja_rw G (m + 1) v) n (ja_rd lay (ja_rw G (m + 1) (N_gi v z)) n (none)) := by
  refine ja_enter [some (.ref m), some (.int (ja_I z))] (by decide) (Nat.le_of_ble_eq_true rfl) (fun q hq => hq) (fun C F Rt GC hnm => ?_)
  have hC := hR.C
  refine r_aload_n F rfl rfl dX9_gives_0 rfl ?_
  refine r_getR F f_X9_7 (hM.1) rfl dX9_gives_1 rfl ?_
  refine r_sipush F (by decide) dX9_gives_4 rfl ?_
  refine r_aload_n F rfl rfl dX9_gives_7 rfl ?_
  refine r_getR F f_X9_7 (hM.1) rfl dX9_gives_8 rfl ?_
  refine r_bipush F (by decide) dX9_gives_11 rfl ?_
  refine r_iald F (ja_LM_1 hM) (by omega) (by omega) (by decide) dX9_gives_13 rfl ?_
  refine r_eqz (z := (v 22)) (by rw [ja_rw_s, show Int.toNat 22 = 22 from rfl]) ?_
  refine r_iadd F dX9_gives_14 rfl ?_
  refine r_iload_n F rfl rfl dX9_gives_15 rfl ?_
  refine r_iast F (ja_LM_1 hM) (by omega) (by omega) (by decide) dX9_gives_16 rfl ?_
  refine r_mem (mem' := ja_rw G (m + 1) (ja_rs v (Int.toNat (2342 + (v 22))) z)) (ja_rw_up _ _ _ _ _) ?_
  refine r_aload_n F rfl rfl dX9_gives_17 rfl ?_
  refine r_getR F f_X9_7 (hM.1) rfl dX9_gives_18 rfl ?_
  refine r_bipush F (by decide) dX9_gives_21 rfl ?_
  refine r_dup2 F rfl rfl dX9_gives_23 rfl ?_
  refine r_iald F (ja_LM_1 hM) (by omega) (by omega) (by decide) dX9_gives_24 rfl ?_
  refine r_eqz (z := (v 22)) (by rw [ja_rw_s, show Int.toNat 22 = 22 from rfl, ja_rs_n (by omega)]) ?_
  refine r_iconst F dX9_gives_25 rfl ?_
  refine r_iadd F dX9_gives_26 rfl ?_
  refine r_iast F (ja_LM_1 hM) (by omega) (by omega) (by decide) dX9_gives_27 rfl ?_
  refine r_mem (mem' := ja_rw G (m + 1) (ja_rs (ja_rs v (Int.toNat (2342 + (v 22))) z) 22 ((v 22) + 1))) (ja_rw_up _ _ _ _ _) ?_
  exact r_vret F Rt dX9_gives_28 (by decide) ⟨rfl, rfl, rfl, rfl⟩
abbrev rm_X9_old : Room := { frames := 0, cells := 0, slots := 0, locals := 0 }
set_option maxRecDepth 100000 in
set_option maxHeartbeats 800000 in
theorem c_X9_old (l : Launch) (D : va_G) (cA : Nat → ClassId) (B : Nat) {lay : ja_Y} {n : Nat} {m : Nat} {G : ja_M} {v : Nat → Int} (hM : ja_LM lay m) {b : Int} (hR : N_R v) (hb : 1 ≤ b ∧ b ≤ v 12) : ja_Mt l D cA B yX9_old cX9_old 2 (some .int) rm_X9_old [.ref m, .int (ja_I b)] lay (ja_rw G (m + 1) v) n (ja_rd lay (ja_rw G (m + 1) v) n (some (.int (ja_I (N_ol v b))))) := by
  refine ja_enter [some (.ref m), some (.int (ja_I b))] (by decide) (Nat.le_of_ble_eq_true rfl) (fun q hq => hq) (fun C F Rt GC hnm => ?_)
  have hC := hR.C
  refine r_aload_n F rfl rfl dX9_old_0 rfl ?_
  refine r_getR F f_X9_7 (hM.1) rfl dX9_old_1 rfl ?_
  refine r_sipush F (by decide) dX9_old_4 rfl ?_
  refine r_aload_n F rfl rfl dX9_old_7 rfl ?_
  refine r_getR F f_X9_7 (hM.1) rfl dX9_old_8 rfl ?_
  refine r_bipush F (by decide) dX9_old_11 rfl ?_
  refine r_iald F (ja_LM_1 hM) (by omega) (by omega) (by decide) dX9_old_13 rfl ?_
  refine r_eqz (z := (v 12)) (by rw [ja_rw_s, show Int.toNat 12 = 12 from rfl]) ?_
  refine r_iload_n F rfl rfl dX9_old_14 rfl ?_
  refine r_isub F dX9_old_15 rfl ?_
  refine r_sipush F (by decide) dX9_old_16 rfl ?_
  refine r_iremP F ⟨by omega, by omega⟩ ⟨by omega, by omega⟩ (by omega) (by omega) dX9_old_19 rfl ?_
  refine r_iadd F dX9_old_20 rfl ?_
  refine r_iald F (ja_LM_1 hM) (by omega) (by omega) (by decide) dX9_old_21 rfl ?_
  refine r_eqz (z := (v (Int.toNat (2054 + (((v 12) - b) % 256))))) (by rw [ja_rw_s]) ?_
  exact r_iret F Rt dX9_old_22 (by decide) ⟨rfl, rfl, rfl, rfl⟩
end
section
abbrev rm_X9_fits : Room := { frames := 2, cells := 0, slots := 0, locals := 45 }
set_option maxRecDepth 100000 in
set_option maxHeartbeats 800000 in
theorem c_X9_fits (l : Launch) (D : va_G) (cA : Nat → ClassId) (B : Nat) {lay : ja_Y} {n : Nat} {m : Nat} {G : ja_M} {v : Nat → Int} (hM : ja_LM lay m) {x : Int} (hR : N_R v) (hx : 0 ≤ x ∧ x ≤ 999) (h22 : v 22 = 0) : ja_Mt l D cA B yX9_fits cX9_fits 9 none rm_X9_fits [.ref m, .int (ja_I x)] lay (ja_rw G (m + 1) v) n (N_pg lay m n G (N_fi v x) (none)) := by
  refine ja_enter [some (.ref m), some (.int (ja_I x)), none, none, none, none, none, none, none] (by decide) (Nat.le_of_ble_eq_true rfl) (fun q hq => hq) (fun C F Rt GC hnm => ?_)
  have hC := hR.C
  have hS := hR.S
  have hS0 := hS.1
  have hS8 := hS.2.2.2.2.2.2.2.2
  have htg := N_tg_in hR
  have hlv := N_lv_in (v := v) (x := x + 1) hS ⟨by omega, by omega⟩
  refine r_aload_n F rfl rfl dX9_fits_0 rfl ?_
  refine r_getR F f_X9_7 (hM.1) rfl dX9_fits_1 rfl ?_
  refine r_iconst F dX9_fits_4 rfl ?_
  refine r_iald F (ja_LM_1 hM) (by omega) (by omega) (by decide) dX9_fits_5 rfl ?_
  refine r_eqz (z := (v 0)) (by rw [ja_rw_s, show Int.toNat 0 = 0 from rfl]) ?_
  refine r_ist2 F (by decide) rfl dX9_fits_6 rfl ?_
  refine r_iconst F dX9_fits_7 rfl ?_
  refine r_ist3 F (by decide) rfl dX9_fits_8 rfl ?_
  have lpx : ∀ (d c : Nat), c + d = (v 0).toNat → ∀ g1 : Nat → Int, (∀ j : Nat, j < c → g1 j = N_wx v x j) → ja_W C 0 0 lay (ja_rw (ja_rw G (m + 7) g1) (m + 1) v) n 9 [some (.ref m), some (.int (ja_I x)), some (.int (ja_I (v 0))), some (.int (ja_I (c : Int))), none, none, none, none, none] [] := by
    intro d
    induction d with
    | zero =>
      intro c hc g1 hg1
      refine r_iload_n F rfl rfl dX9_fits_9 rfl ?_
      refine r_iload_n F rfl rfl dX9_fits_10 rfl ?_
      refine r_icmp_ge F (tgt := 32) ⟨by omega, by omega⟩ ⟨by omega, by omega⟩ dX9_fits_11 rfl (by decide) (fun h_11 => ?_) (fun h_11 => ?_)
      ·
        have hx7 : ∀ j : Nat, (j : Int) < v 0 → (ja_rw G (m + 7) g1) (m + 7) j = N_wx v x j := fun j hj => by rw [ja_rw_s]; exact hg1 j (by omega)
        have hge : N_ge m G (ja_rw G (m + 7) g1) := fun q _ a => ja_rw_n a
        generalize ja_rw G (m + 7) g1 = G0 at *
        refine r_aload_n F rfl rfl dX9_fits_32 rfl ?_
        refine r_iload_n F rfl rfl dX9_fits_33 rfl ?_
        refine r_iconst F dX9_fits_34 rfl ?_
        refine r_iadd F dX9_fits_35 rfl ?_
        refine r_callV F GC (c_X9_levelFrom _ _ _ _ hM hR ⟨by omega, by omega⟩) v_X9_107 rfl (hM.1) rfl (by decide) (by decide) (Nat.le_of_ble_eq_true rfl) rfl dX9_fits_36 rfl (fun v lay' mem' n' hp => ?_)
        obtain ⟨q1, q2, q3, q4⟩ := hp
        subst q1; subst q2; subst q3; subst q4
        refine r_ist3 F (by decide) rfl dX9_fits_39 rfl ?_
        refine r_aload_n F rfl rfl dX9_fits_40 rfl ?_
        refine r_callV F GC (c_X9_targetNow _ _ _ _ hM hR) v_X9_110 rfl (hM.1) rfl (by decide) (by decide) (Nat.le_of_ble_eq_true rfl) rfl dX9_fits_41 rfl (fun v lay' mem' n' hp => ?_)
        obtain ⟨q1, q2, q3, G1, hG1, q4⟩ := hp
        subst q1; subst q2; subst q3; subst q4
        have hx8 : ∀ j : Nat, (j : Int) < v 0 → G1 (m + 7) j = N_wx v x j := fun j hj => by rw [hG1 (m + 7) (by omega)]; exact hx7 j hj
        refine r_ist4 F (by decide) rfl dX9_fits_44 rfl ?_
        have J70 : ja_W C 0 0 lay (ja_rw G1 (m + 1) v) n 70 [some (.ref (m)), some (.int (ja_I (x))), some (.int (ja_I (v 0))), some (.int (ja_I ((N_lv v (x + 1))))), some (.int (ja_I ((N_tg v)))), none, none, none, none] [.int (ja_I (ja_b (N_sht v x)))] := by
          refine r_ist5 F (by decide) rfl dX9_fits_70 rfl ?_
          have J96 : ja_W C 0 0 lay (ja_rw G1 (m + 1) v) n 96 [some (.ref (m)), some (.int (ja_I (x))), some (.int (ja_I (v 0))), some (.int (ja_I ((N_lv v (x + 1))))), some (.int (ja_I ((N_tg v)))), some (.int (ja_I ((ja_b (N_sht v x))))), none, none, none] [.int (ja_I (ja_b (N_lng v x)))] := by
            refine r_ist6 F (by decide) rfl dX9_fits_96 rfl ?_
            refine r_aload_n F rfl rfl dX9_fits_98 rfl ?_
            refine r_callV F GC (c_X9_lagOfFrame _ _ _ _ hM hR (fun j => N_wx_in (v := v) (x := x) j) hx8) v_X9_113 rfl (hM.1) rfl (by decide) (by decide) (Nat.le_of_ble_eq_true rfl) rfl dX9_fits_99 rfl (fun v lay' mem' n' hp => ?_)
            obtain ⟨q1, q2, q3, q4⟩ := hp
            subst q1; subst q2; subst q3; subst q4
            refine r_eqz (z := N_lf v x) rfl ?_
            refine r_ist7 F (by decide) rfl dX9_fits_102 rfl ?_
            refine r_aload_n F rfl rfl dX9_fits_104 rfl ?_
            refine r_getR F f_X9_7 (hM.1) rfl dX9_fits_105 rfl ?_
            refine r_bipush F (by decide) dX9_fits_108 rfl ?_
            refine r_dup2 F rfl rfl dX9_fits_110 rfl ?_
            refine r_iald F (ja_LM_1 hM) (by omega) (by omega) (by decide) dX9_fits_111 rfl ?_
            refine r_eqz (z := (v 16)) (by rw [ja_rw_s, show Int.toNat 16 = 16 from rfl]) ?_
            have J122 : ja_W C 0 0 lay (ja_rw G1 (m + 1) v) n 122 [some (.ref (m)), some (.int (ja_I (x))), some (.int (ja_I (v 0))), some (.int (ja_I ((N_lv v (x + 1))))), some (.int (ja_I ((N_tg v)))), some (.int (ja_I ((ja_b (N_sht v x))))), some (.int (ja_I ((ja_b (N_lng v x))))), some (.int (ja_I ((N_lf v x)))), none] [.int (ja_I (ja_b (N_sht v x))), .int (ja_I ((v 16))), .int (ja_I (16)), .ref ((m + 1))] := by
              refine r_iadd F dX9_fits_122 rfl ?_
              refine r_iast F (ja_LM_1 hM) (by omega) (by omega) (by decide) dX9_fits_123 rfl ?_
              refine r_mem (mem' := ja_rw G1 (m + 1) (ja_rs v 16 ((v 16) + (ja_b (N_sht v x))))) (ja_rw_up _ _ _ _ _) ?_
              refine r_aload_n F rfl rfl dX9_fits_124 rfl ?_
              refine r_getR F f_X9_7 (hM.1) rfl dX9_fits_125 rfl ?_
              refine r_bipush F (by decide) dX9_fits_128 rfl ?_
              refine r_dup2 F rfl rfl dX9_fits_130 rfl ?_
              refine r_iald F (ja_LM_1 hM) (by omega) (by omega) (by decide) dX9_fits_131 rfl ?_
              refine r_eqz (z := (v 15)) (by rw [ja_rw_s, show Int.toNat 15 = 15 from rfl, ja_rs_n (by omega)]) ?_
              have J142 : ja_W C 0 0 lay (ja_rw G1 (m + 1) (ja_rs v 16 ((v 16) + (ja_b (N_sht v x))))) n 142 [some (.ref (m)), some (.int (ja_I (x))), some (.int (ja_I (v 0))), some (.int (ja_I ((N_lv v (x + 1))))), some (.int (ja_I ((N_tg v)))), some (.int (ja_I ((ja_b (N_sht v x))))), some (.int (ja_I ((ja_b (N_lng v x))))), some (.int (ja_I ((N_lf v x)))), none] [.int (ja_I (ja_b (N_lng v x))), .int (ja_I ((v 15))), .int (ja_I (15)), .ref ((m + 1))] := by
                refine r_iadd F dX9_fits_142 rfl ?_
                refine r_iast F (ja_LM_1 hM) (by omega) (by omega) (by decide) dX9_fits_143 rfl ?_
                refine r_mem (mem' := ja_rw G1 (m + 1) (ja_rs (ja_rs v 16 ((v 16) + (ja_b (N_sht v x)))) 15 ((v 15) + (ja_b (N_lng v x))))) (ja_rw_up _ _ _ _ _) ?_
                refine r_mem (mem' := ja_rw G1 (m + 1) (N_f0 v x)) rfl ?_
                have b0 := N_f0_R (x := x) hR
                have hlf := @N_lf_in v x hS
                obtain ⟨b1, b2, b3⟩ := id b0
                by_cases hs : N_sht v x
                · have hl : ¬ N_lng v x := fun q => by have q1 := hs.2; have q2 := q.2; omega
                  refine r_iconst F dX9_fits_144 rfl ?_
                  refine r_ist8 F (by decide) rfl dX9_fits_145 rfl ?_
                  have lp1 : ∀ (d c : Nat), c + d = (N_lf v x).toNat → ja_W C 0 0 lay (ja_rw G1 (m + 1) (N_gs (N_f0 v x) (N_m1 v x) c)) n 147 [some (.ref (m)), some (.int (ja_I (x))), some (.int (ja_I (v 0))), some (.int (ja_I ((N_lv v (x + 1))))), some (.int (ja_I ((N_tg v)))), some (.int (ja_I ((ja_b (N_sht v x))))), some (.int (ja_I ((ja_b (N_lng v x))))), some (.int (ja_I ((N_lf v x)))), some (.int (ja_I ((c : Int))))] [] := by
                    intro d
                    induction d with
                    | zero =>
                      intro c hc
                      obtain ⟨w1, w2, w3⟩ := N_gs_R (h := (N_m1 v x)) b1 c (fun j hj => N_m1_in hS j (by omega)) (by omega)
                      have wC := w1.C
                      refine r_iload F rfl dX9_fits_147 rfl ?_
                      refine r_iload F rfl dX9_fits_149 rfl ?_
                      refine r_icmp_ge F (tgt := 193) ⟨by omega, by omega⟩ ⟨by omega, by omega⟩ dX9_fits_151 rfl (by decide) (fun h_151 => ?_) (fun h_151 => ?_)
                      ·
                        obtain rfl : c = (N_lf v x).toNat := by omega
                        obtain ⟨b1, b2, b3⟩ := N_gs_R (h := (N_m1 v x)) b1 (N_lf v x).toNat (N_m1_in hS) (by omega)
                        refine r_iconst F dX9_fits_193 rfl ?_
                        refine r_ist8 F (by decide) rfl dX9_fits_194 rfl ?_
                        refine r_iload F rfl dX9_fits_196 rfl ?_
                        refine r_iload F rfl dX9_fits_198 rfl ?_
                        refine r_icmp_ge F (tgt := 225) ⟨by omega, by omega⟩ ⟨by omega, by omega⟩ dX9_fits_200 rfl (by decide) (fun h_200 => ?_) (fun h_200 => ?_)
                        ·
                          exfalso; omega
                        ·
                          refine r_iload F rfl dX9_fits_203 rfl ?_
                          refine r_if_ne F (tgt := 225) ja_b_in dX9_fits_205 rfl (by decide) (fun h_205 => ?_) (fun h_205 => ?_)
                          ·
                            have b_205 : (N_sht v x) := ja_b_1 h_205
                            refine r_iconst F dX9_fits_225 rfl ?_
                            refine r_ist8 F (by decide) rfl dX9_fits_226 rfl ?_
                            refine r_iload F rfl dX9_fits_228 rfl ?_
                            refine r_iload F rfl dX9_fits_230 rfl ?_
                            refine r_icmp_ge F (tgt := 274) ⟨by omega, by omega⟩ ⟨by omega, by omega⟩ dX9_fits_232 rfl (by decide) (fun h_232 => ?_) (fun h_232 => ?_)
                            ·
                              exfalso; omega
                            ·
                              refine r_iload F rfl dX9_fits_235 rfl ?_
                              refine r_if_eq F (tgt := 274) ja_b_in dX9_fits_237 rfl (by decide) (fun h_237 => ?_) (fun h_237 => ?_)
                              ·
                                have b_237 : ¬ (N_lng v x) := ja_b_0.mp h_237
                                refine r_iload F rfl dX9_fits_274 rfl ?_
                                refine r_if_eq F (tgt := 286) ja_b_in dX9_fits_276 rfl (by decide) (fun h_276 => ?_) (fun h_276 => ?_)
                                ·
                                  have b_276 : ¬ (N_sht v x) := ja_b_0.mp h_276
                                  exact absurd hs b_276
                                ·
                                  have b_276 : (N_sht v x) := ja_b_1 h_276
                                  refine r_iconst F dX9_fits_279 rfl ?_
                                  refine r_iload F rfl dX9_fits_280 rfl ?_
                                  refine r_imul F dX9_fits_282 rfl ?_
                                  refine r_goto F (tgt := 288) dX9_fits_283 (by decide) ?_
                                  refine r_ist8 F (by decide) rfl dX9_fits_288 rfl ?_
                                  have lp4 : ∀ (d c : Nat), c + d = (v 0 - 2 * N_lf v x).toNat → ja_W C 0 0 lay (ja_rw G1 (m + 1) (N_gs (N_gs (N_f0 v x) (N_m1 v x) (N_lf v x).toNat) (fun i => N_wx v x ((2 * N_lf v x).toNat + i)) c)) n 290 [some (.ref (m)), some (.int (ja_I (x))), some (.int (ja_I (v 0))), some (.int (ja_I ((N_lv v (x + 1))))), some (.int (ja_I ((N_tg v)))), some (.int (ja_I ((ja_b (N_sht v x))))), some (.int (ja_I ((ja_b (N_lng v x))))), some (.int (ja_I ((N_lf v x)))), some (.int (ja_I (((2 * N_lf v x) + (c : Int)))))] [] := by
                                    intro d
                                    induction d with
                                    | zero =>
                                      intro c hc
                                      obtain ⟨w1, w2, w3⟩ := N_gs_R (h := (fun i => N_wx v x ((2 * N_lf v x).toNat + i))) b1 c (fun j _ => N_wx_in _) (by omega)
                                      have wC := w1.C
                                      refine r_iload F rfl dX9_fits_290 rfl ?_
                                      refine r_iload_n F rfl rfl dX9_fits_292 rfl ?_
                                      refine r_icmp_ge F (tgt := 313) ⟨by omega, by omega⟩ ⟨by omega, by omega⟩ dX9_fits_293 rfl (by decide) (fun h_293 => ?_) (fun h_293 => ?_)
                                      ·
                                        exact r_vret F Rt dX9_fits_313 (by decide) ⟨rfl, rfl, rfl, G1, hge.tr hG1.ge, by rw [N_fi, if_pos hs, show (v 0 - 2 * N_lf v x).toNat = c by omega]⟩
                                      ·
                                        exfalso; omega
                                    | succ d ih =>
                                      intro c hc
                                      obtain ⟨w1, w2, w3⟩ := N_gs_R (h := (fun i => N_wx v x ((2 * N_lf v x).toNat + i))) b1 c (fun j _ => N_wx_in _) (by omega)
                                      have wC := w1.C
                                      refine r_iload F rfl dX9_fits_290 rfl ?_
                                      refine r_iload_n F rfl rfl dX9_fits_292 rfl ?_
                                      refine r_icmp_ge F (tgt := 313) ⟨by omega, by omega⟩ ⟨by omega, by omega⟩ dX9_fits_293 rfl (by decide) (fun h_293 => ?_) (fun h_293 => ?_)
                                      ·
                                        exfalso; omega
                                      ·
                                        refine r_aload_n F rfl rfl dX9_fits_296 rfl ?_
                                        refine r_aload_n F rfl rfl dX9_fits_297 rfl ?_
                                        refine r_getR F f_X9_29 (hM.1) rfl dX9_fits_298 rfl ?_
                                        refine r_iload F rfl dX9_fits_301 rfl ?_
                                        refine r_iald F (ja_LM_7 hM) (by omega) (by omega) (by decide) dX9_fits_303 rfl ?_
                                        refine r_eqz (z := (N_wx v x ((2 * N_lf v x).toNat + c))) (by rw [ja_rw_n (by omega), hx8 _ (by omega)] <;> congr 1 <;> omega) ?_
                                        refine r_eqz (z := N_wx v x ((2 * N_lf v x).toNat + c)) rfl ?_
                                        refine r_callV F GC (c_X9_gives _ _ _ _ hM w1) v_X9_120 rfl (hM.1) rfl (by decide) (by decide) (Nat.le_of_ble_eq_true rfl) rfl dX9_fits_304 rfl (fun v lay' mem' n' hp => ?_)
                                        obtain ⟨q1, q2, q3, q4⟩ := hp
                                        subst q1; subst q2; subst q3; subst q4
                                        refine r_inc8 F (by decide) rfl dX9_fits_307 rfl ?_
                                        refine r_goto F (tgt := 290) dX9_fits_310 (by decide) ?_
                                        rw [show ((2 * N_lf v x) + (c : Int)) + 1 = ((2 * N_lf v x) + ((c + 1 : Nat) : Int)) by omega]
                                        exact ih (c + 1) (by omega)
                                  have h0 := lp4 ((v 0 - 2 * N_lf v x).toNat) 0 (by omega)
                                  rw [show ((2 * N_lf v x) + ((0 : Nat) : Int)) = ((2 * N_lf v x)) by omega] at h0
                                  exact h0
                              ·
                                have b_237 : (N_lng v x) := ja_b_1 h_237
                                exact absurd b_237 hl
                          ·
                            have b_205 : ¬ (N_sht v x) := ja_b_0.mp h_205
                            exact absurd hs b_205
                      ·
                        exfalso; omega
                    | succ d ih =>
                      intro c hc
                      obtain ⟨w1, w2, w3⟩ := N_gs_R (h := (N_m1 v x)) b1 c (fun j hj => N_m1_in hS j (by omega)) (by omega)
                      have wC := w1.C
                      refine r_iload F rfl dX9_fits_147 rfl ?_
                      refine r_iload F rfl dX9_fits_149 rfl ?_
                      refine r_icmp_ge F (tgt := 193) ⟨by omega, by omega⟩ ⟨by omega, by omega⟩ dX9_fits_151 rfl (by decide) (fun h_151 => ?_) (fun h_151 => ?_)
                      ·
                        exfalso; omega
                      ·
                        refine r_iload F rfl dX9_fits_154 rfl ?_
                        refine r_if_eq F (tgt := 193) ja_b_in dX9_fits_156 rfl (by decide) (fun h_156 => ?_) (fun h_156 => ?_)
                        ·
                          have b_156 : ¬ (N_sht v x) := ja_b_0.mp h_156
                          exact absurd hs b_156
                        ·
                          have b_156 : (N_sht v x) := ja_b_1 h_156
                          refine r_aload_n F rfl rfl dX9_fits_159 rfl ?_
                          refine r_aload_n F rfl rfl dX9_fits_160 rfl ?_
                          refine r_getR F f_X9_29 (hM.1) rfl dX9_fits_161 rfl ?_
                          refine r_iload F rfl dX9_fits_164 rfl ?_
                          refine r_iald F (ja_LM_7 hM) (by omega) (by omega) (by decide) dX9_fits_166 rfl ?_
                          refine r_eqz (z := (N_wx v x c)) (by rw [ja_rw_n (by omega), hx8 _ (by omega)] <;> congr 1 <;> omega) ?_
                          refine r_aload_n F rfl rfl dX9_fits_167 rfl ?_
                          refine r_getR F f_X9_29 (hM.1) rfl dX9_fits_168 rfl ?_
                          refine r_iload F rfl dX9_fits_171 rfl ?_
                          refine r_iload F rfl dX9_fits_173 rfl ?_
                          refine r_iadd F dX9_fits_175 rfl ?_
                          refine r_iald F (ja_LM_7 hM) (by omega) (by omega) (by decide) dX9_fits_176 rfl ?_
                          refine r_eqz (z := (N_wx v x (c + (N_lf v x).toNat))) (by rw [ja_rw_n (by omega), hx8 _ (by omega)] <;> congr 1 <;> omega) ?_
                          refine r_iload F rfl dX9_fits_177 rfl ?_
                          refine r_iload F rfl dX9_fits_179 rfl ?_
                          refine r_callS F GC (c_X9_mixed _ _ _ _ (N_wx_in _) (N_wx_in _) ⟨by omega, by omega⟩ ⟨by omega, by omega⟩) s_X9_116 rfl (by decide) (by decide) (Nat.le_of_ble_eq_true rfl) rfl dX9_fits_181 rfl (fun v lay' mem' n' hp => ?_)
                          obtain ⟨q1, q2, q3, q4⟩ := hp
                          subst q1; subst q2; subst q3; subst q4
                          refine r_eqz (z := N_m1 v x c) rfl ?_
                          refine r_callV F GC (c_X9_gives _ _ _ _ hM w1) v_X9_120 rfl (hM.1) rfl (by decide) (by decide) (Nat.le_of_ble_eq_true rfl) rfl dX9_fits_184 rfl (fun v lay' mem' n' hp => ?_)
                          obtain ⟨q1, q2, q3, q4⟩ := hp
                          subst q1; subst q2; subst q3; subst q4
                          refine r_inc8 F (by decide) rfl dX9_fits_187 rfl ?_
                          refine r_goto F (tgt := 147) dX9_fits_190 (by decide) ?_
                          exact ih (c + 1) (by omega)
                  exact lp1 ((N_lf v x).toNat) 0 (by omega)
                · by_cases hl : N_lng v x
                  ·
                    refine r_iconst F dX9_fits_144 rfl ?_
                    refine r_ist8 F (by decide) rfl dX9_fits_145 rfl ?_
                    refine r_iload F rfl dX9_fits_147 rfl ?_
                    refine r_iload F rfl dX9_fits_149 rfl ?_
                    refine r_icmp_ge F (tgt := 193) ⟨by omega, by omega⟩ ⟨by omega, by omega⟩ dX9_fits_151 rfl (by decide) (fun h_151 => ?_) (fun h_151 => ?_)
                    ·
                      exfalso; omega
                    ·
                      refine r_iload F rfl dX9_fits_154 rfl ?_
                      refine r_if_eq F (tgt := 193) ja_b_in dX9_fits_156 rfl (by decide) (fun h_156 => ?_) (fun h_156 => ?_)
                      ·
                        have b_156 : ¬ (N_sht v x) := ja_b_0.mp h_156
                        refine r_iconst F dX9_fits_193 rfl ?_
                        refine r_ist8 F (by decide) rfl dX9_fits_194 rfl ?_
                        have lp2 : ∀ (d c : Nat), c + d = (N_lf v x).toNat → ja_W C 0 0 lay (ja_rw G1 (m + 1) (N_gs (N_f0 v x) (N_wx v x) c)) n 196 [some (.ref (m)), some (.int (ja_I (x))), some (.int (ja_I (v 0))), some (.int (ja_I ((N_lv v (x + 1))))), some (.int (ja_I ((N_tg v)))), some (.int (ja_I ((ja_b (N_sht v x))))), some (.int (ja_I ((ja_b (N_lng v x))))), some (.int (ja_I ((N_lf v x)))), some (.int (ja_I ((c : Int))))] [] := by
                          intro d
                          induction d with
                          | zero =>
                            intro c hc
                            obtain ⟨w1, w2, w3⟩ := N_gs_R (h := (N_wx v x)) b1 c (fun j _ => N_wx_in j) (by omega)
                            have wC := w1.C
                            refine r_iload F rfl dX9_fits_196 rfl ?_
                            refine r_iload F rfl dX9_fits_198 rfl ?_
                            refine r_icmp_ge F (tgt := 225) ⟨by omega, by omega⟩ ⟨by omega, by omega⟩ dX9_fits_200 rfl (by decide) (fun h_200 => ?_) (fun h_200 => ?_)
                            ·
                              obtain rfl : c = (N_lf v x).toNat := by omega
                              obtain ⟨b1, b2, b3⟩ := N_gs_R (h := (N_wx v x)) b1 (N_lf v x).toNat (fun j _ => N_wx_in j) (by omega)
                              refine r_iconst F dX9_fits_225 rfl ?_
                              refine r_ist8 F (by decide) rfl dX9_fits_226 rfl ?_
                              have lp3 : ∀ (d c : Nat), c + d = (N_lf v x).toNat → ja_W C 0 0 lay (ja_rw G1 (m + 1) (N_gs (N_gs (N_f0 v x) (N_wx v x) (N_lf v x).toNat) (N_m2 v x) c)) n 228 [some (.ref (m)), some (.int (ja_I (x))), some (.int (ja_I (v 0))), some (.int (ja_I ((N_lv v (x + 1))))), some (.int (ja_I ((N_tg v)))), some (.int (ja_I ((ja_b (N_sht v x))))), some (.int (ja_I ((ja_b (N_lng v x))))), some (.int (ja_I ((N_lf v x)))), some (.int (ja_I ((c : Int))))] [] := by
                                intro d
                                induction d with
                                | zero =>
                                  intro c hc
                                  obtain ⟨w1, w2, w3⟩ := N_gs_R (h := (N_m2 v x)) b1 c (fun j hj => N_m2_in hS j (by omega)) (by omega)
                                  have wC := w1.C
                                  refine r_iload F rfl dX9_fits_228 rfl ?_
                                  refine r_iload F rfl dX9_fits_230 rfl ?_
                                  refine r_icmp_ge F (tgt := 274) ⟨by omega, by omega⟩ ⟨by omega, by omega⟩ dX9_fits_232 rfl (by decide) (fun h_232 => ?_) (fun h_232 => ?_)
                                  ·
                                    obtain rfl : c = (N_lf v x).toNat := by omega
                                    obtain ⟨b1, b2, b3⟩ := N_gs_R (h := (N_m2 v x)) b1 (N_lf v x).toNat (N_m2_in hS) (by omega)
                                    refine r_iload F rfl dX9_fits_274 rfl ?_
                                    refine r_if_eq F (tgt := 286) ja_b_in dX9_fits_276 rfl (by decide) (fun h_276 => ?_) (fun h_276 => ?_)
                                    ·
                                      have b_276 : ¬ (N_sht v x) := ja_b_0.mp h_276
                                      refine r_iload F rfl dX9_fits_286 rfl ?_
                                      refine r_ist8 F (by decide) rfl dX9_fits_288 rfl ?_
                                      have lp4 : ∀ (d c : Nat), c + d = (v 0 - N_lf v x).toNat → ja_W C 0 0 lay (ja_rw G1 (m + 1) (N_gs (N_gs (N_gs (N_f0 v x) (N_wx v x) (N_lf v x).toNat) (N_m2 v x) (N_lf v x).toNat) (fun i => N_wx v x ((N_lf v x).toNat + i)) c)) n 290 [some (.ref (m)), some (.int (ja_I (x))), some (.int (ja_I (v 0))), some (.int (ja_I ((N_lv v (x + 1))))), some (.int (ja_I ((N_tg v)))), some (.int (ja_I ((ja_b (N_sht v x))))), some (.int (ja_I ((ja_b (N_lng v x))))), some (.int (ja_I ((N_lf v x)))), some (.int (ja_I ((N_lf v x + (c : Int)))))] [] := by
                                        intro d
                                        induction d with
                                        | zero =>
                                          intro c hc
                                          obtain ⟨w1, w2, w3⟩ := N_gs_R (h := (fun i => N_wx v x ((N_lf v x).toNat + i))) b1 c (fun j _ => N_wx_in _) (by omega)
                                          have wC := w1.C
                                          refine r_iload F rfl dX9_fits_290 rfl ?_
                                          refine r_iload_n F rfl rfl dX9_fits_292 rfl ?_
                                          refine r_icmp_ge F (tgt := 313) ⟨by omega, by omega⟩ ⟨by omega, by omega⟩ dX9_fits_293 rfl (by decide) (fun h_293 => ?_) (fun h_293 => ?_)
                                          ·
                                            exact r_vret F Rt dX9_fits_313 (by decide) ⟨rfl, rfl, rfl, G1, hge.tr hG1.ge, by rw [N_fi, if_neg hs, if_pos hl, show (v 0 - N_lf v x).toNat = c by omega]⟩
                                          ·
                                            exfalso; omega
                                        | succ d ih =>
                                          intro c hc
                                          obtain ⟨w1, w2, w3⟩ := N_gs_R (h := (fun i => N_wx v x ((N_lf v x).toNat + i))) b1 c (fun j _ => N_wx_in _) (by omega)
                                          have wC := w1.C
                                          refine r_iload F rfl dX9_fits_290 rfl ?_
                                          refine r_iload_n F rfl rfl dX9_fits_292 rfl ?_
                                          refine r_icmp_ge F (tgt := 313) ⟨by omega, by omega⟩ ⟨by omega, by omega⟩ dX9_fits_293 rfl (by decide) (fun h_293 => ?_) (fun h_293 => ?_)
                                          ·
                                            exfalso; omega
                                          ·
                                            refine r_aload_n F rfl rfl dX9_fits_296 rfl ?_
                                            refine r_aload_n F rfl rfl dX9_fits_297 rfl ?_
                                            refine r_getR F f_X9_29 (hM.1) rfl dX9_fits_298 rfl ?_
                                            refine r_iload F rfl dX9_fits_301 rfl ?_
                                            refine r_iald F (ja_LM_7 hM) (by omega) (by omega) (by decide) dX9_fits_303 rfl ?_
                                            refine r_eqz (z := (N_wx v x ((N_lf v x).toNat + c))) (by rw [ja_rw_n (by omega), hx8 _ (by omega)] <;> congr 1 <;> omega) ?_
                                            refine r_eqz (z := N_wx v x ((N_lf v x).toNat + c)) rfl ?_
                                            refine r_callV F GC (c_X9_gives _ _ _ _ hM w1) v_X9_120 rfl (hM.1) rfl (by decide) (by decide) (Nat.le_of_ble_eq_true rfl) rfl dX9_fits_304 rfl (fun v lay' mem' n' hp => ?_)
                                            obtain ⟨q1, q2, q3, q4⟩ := hp
                                            subst q1; subst q2; subst q3; subst q4
                                            refine r_inc8 F (by decide) rfl dX9_fits_307 rfl ?_
                                            refine r_goto F (tgt := 290) dX9_fits_310 (by decide) ?_
                                            rw [show (N_lf v x + (c : Int)) + 1 = (N_lf v x + ((c + 1 : Nat) : Int)) by omega]
                                            exact ih (c + 1) (by omega)
                                      have h0 := lp4 ((v 0 - N_lf v x).toNat) 0 (by omega)
                                      rw [show (N_lf v x + ((0 : Nat) : Int)) = (N_lf v x) by omega] at h0
                                      exact h0
                                    ·
                                      have b_276 : (N_sht v x) := ja_b_1 h_276
                                      exact absurd b_276 hs
                                  ·
                                    exfalso; omega
                                | succ d ih =>
                                  intro c hc
                                  obtain ⟨w1, w2, w3⟩ := N_gs_R (h := (N_m2 v x)) b1 c (fun j hj => N_m2_in hS j (by omega)) (by omega)
                                  have wC := w1.C
                                  refine r_iload F rfl dX9_fits_228 rfl ?_
                                  refine r_iload F rfl dX9_fits_230 rfl ?_
                                  refine r_icmp_ge F (tgt := 274) ⟨by omega, by omega⟩ ⟨by omega, by omega⟩ dX9_fits_232 rfl (by decide) (fun h_232 => ?_) (fun h_232 => ?_)
                                  ·
                                    exfalso; omega
                                  ·
                                    refine r_iload F rfl dX9_fits_235 rfl ?_
                                    refine r_if_eq F (tgt := 274) ja_b_in dX9_fits_237 rfl (by decide) (fun h_237 => ?_) (fun h_237 => ?_)
                                    ·
                                      have b_237 : ¬ (N_lng v x) := ja_b_0.mp h_237
                                      exact absurd hl b_237
                                    ·
                                      have b_237 : (N_lng v x) := ja_b_1 h_237
                                      refine r_aload_n F rfl rfl dX9_fits_240 rfl ?_
                                      refine r_aload_n F rfl rfl dX9_fits_241 rfl ?_
                                      refine r_getR F f_X9_29 (hM.1) rfl dX9_fits_242 rfl ?_
                                      refine r_iload F rfl dX9_fits_245 rfl ?_
                                      refine r_iload F rfl dX9_fits_247 rfl ?_
                                      refine r_iadd F dX9_fits_249 rfl ?_
                                      refine r_iald F (ja_LM_7 hM) (by omega) (by omega) (by decide) dX9_fits_250 rfl ?_
                                      refine r_eqz (z := (N_wx v x (c + (N_lf v x).toNat))) (by rw [ja_rw_n (by omega), hx8 _ (by omega)] <;> congr 1 <;> omega) ?_
                                      refine r_aload_n F rfl rfl dX9_fits_251 rfl ?_
                                      refine r_getR F f_X9_29 (hM.1) rfl dX9_fits_252 rfl ?_
                                      refine r_iload F rfl dX9_fits_255 rfl ?_
                                      refine r_iald F (ja_LM_7 hM) (by omega) (by omega) (by decide) dX9_fits_257 rfl ?_
                                      refine r_eqz (z := (N_wx v x c)) (by rw [ja_rw_n (by omega), hx8 _ (by omega)] <;> congr 1 <;> omega) ?_
                                      refine r_iload F rfl dX9_fits_258 rfl ?_
                                      refine r_iload F rfl dX9_fits_260 rfl ?_
                                      refine r_callS F GC (c_X9_mixed _ _ _ _ (N_wx_in _) (N_wx_in _) ⟨by omega, by omega⟩ ⟨by omega, by omega⟩) s_X9_116 rfl (by decide) (by decide) (Nat.le_of_ble_eq_true rfl) rfl dX9_fits_262 rfl (fun v lay' mem' n' hp => ?_)
                                      obtain ⟨q1, q2, q3, q4⟩ := hp
                                      subst q1; subst q2; subst q3; subst q4
                                      refine r_eqz (z := N_m2 v x c) rfl ?_
                                      refine r_callV F GC (c_X9_gives _ _ _ _ hM w1) v_X9_120 rfl (hM.1) rfl (by decide) (by decide) (Nat.le_of_ble_eq_true rfl) rfl dX9_fits_265 rfl (fun v lay' mem' n' hp => ?_)
                                      obtain ⟨q1, q2, q3, q4⟩ := hp
                                      subst q1; subst q2; subst q3; subst q4
                                      refine r_inc8 F (by decide) rfl dX9_fits_268 rfl ?_
                                      refine r_goto F (tgt := 228) dX9_fits_271 (by decide) ?_
                                      exact ih (c + 1) (by omega)
                              exact lp3 ((N_lf v x).toNat) 0 (by omega)
                            ·
                              exfalso; omega
                          | succ d ih =>
                            intro c hc
                            obtain ⟨w1, w2, w3⟩ := N_gs_R (h := (N_wx v x)) b1 c (fun j _ => N_wx_in j) (by omega)
                            have wC := w1.C
                            refine r_iload F rfl dX9_fits_196 rfl ?_
                            refine r_iload F rfl dX9_fits_198 rfl ?_
                            refine r_icmp_ge F (tgt := 225) ⟨by omega, by omega⟩ ⟨by omega, by omega⟩ dX9_fits_200 rfl (by decide) (fun h_200 => ?_) (fun h_200 => ?_)
                            ·
                              exfalso; omega
                            ·
                              refine r_iload F rfl dX9_fits_203 rfl ?_
                              refine r_if_ne F (tgt := 225) ja_b_in dX9_fits_205 rfl (by decide) (fun h_205 => ?_) (fun h_205 => ?_)
                              ·
                                have b_205 : (N_sht v x) := ja_b_1 h_205
                                exact absurd b_205 hs
                              ·
                                have b_205 : ¬ (N_sht v x) := ja_b_0.mp h_205
                                refine r_aload_n F rfl rfl dX9_fits_208 rfl ?_
                                refine r_aload_n F rfl rfl dX9_fits_209 rfl ?_
                                refine r_getR F f_X9_29 (hM.1) rfl dX9_fits_210 rfl ?_
                                refine r_iload F rfl dX9_fits_213 rfl ?_
                                refine r_iald F (ja_LM_7 hM) (by omega) (by omega) (by decide) dX9_fits_215 rfl ?_
                                refine r_eqz (z := (N_wx v x c)) (by rw [ja_rw_n (by omega), hx8 _ (by omega)] <;> congr 1 <;> omega) ?_
                                refine r_eqz (z := N_wx v x c) rfl ?_
                                refine r_callV F GC (c_X9_gives _ _ _ _ hM w1) v_X9_120 rfl (hM.1) rfl (by decide) (by decide) (Nat.le_of_ble_eq_true rfl) rfl dX9_fits_216 rfl (fun v lay' mem' n' hp => ?_)
                                obtain ⟨q1, q2, q3, q4⟩ := hp
                                subst q1; subst q2; subst q3; subst q4
                                refine r_inc8 F (by decide) rfl dX9_fits_219 rfl ?_
                                refine r_goto F (tgt := 196) dX9_fits_222 (by decide) ?_
                                exact ih (c + 1) (by omega)
                        exact lp2 ((N_lf v x).toNat) 0 (by omega)
                      ·
                        have b_156 : (N_sht v x) := ja_b_1 h_156
                        exact absurd b_156 hs
                  ·
                    refine r_iconst F dX9_fits_144 rfl ?_
                    refine r_ist8 F (by decide) rfl dX9_fits_145 rfl ?_
                    refine r_iload F rfl dX9_fits_147 rfl ?_
                    refine r_iload F rfl dX9_fits_149 rfl ?_
                    refine r_icmp_ge F (tgt := 193) ⟨by omega, by omega⟩ ⟨by omega, by omega⟩ dX9_fits_151 rfl (by decide) (fun h_151 => ?_) (fun h_151 => ?_)
                    ·
                      exfalso; omega
                    ·
                      refine r_iload F rfl dX9_fits_154 rfl ?_
                      refine r_if_eq F (tgt := 193) ja_b_in dX9_fits_156 rfl (by decide) (fun h_156 => ?_) (fun h_156 => ?_)
                      ·
                        have b_156 : ¬ (N_sht v x) := ja_b_0.mp h_156
                        refine r_iconst F dX9_fits_193 rfl ?_
                        refine r_ist8 F (by decide) rfl dX9_fits_194 rfl ?_
                        have lp2 : ∀ (d c : Nat), c + d = (N_lf v x).toNat → ja_W C 0 0 lay (ja_rw G1 (m + 1) (N_gs (N_f0 v x) (N_wx v x) c)) n 196 [some (.ref (m)), some (.int (ja_I (x))), some (.int (ja_I (v 0))), some (.int (ja_I ((N_lv v (x + 1))))), some (.int (ja_I ((N_tg v)))), some (.int (ja_I ((ja_b (N_sht v x))))), some (.int (ja_I ((ja_b (N_lng v x))))), some (.int (ja_I ((N_lf v x)))), some (.int (ja_I ((c : Int))))] [] := by
                          intro d
                          induction d with
                          | zero =>
                            intro c hc
                            obtain ⟨w1, w2, w3⟩ := N_gs_R (h := (N_wx v x)) b1 c (fun j _ => N_wx_in j) (by omega)
                            have wC := w1.C
                            refine r_iload F rfl dX9_fits_196 rfl ?_
                            refine r_iload F rfl dX9_fits_198 rfl ?_
                            refine r_icmp_ge F (tgt := 225) ⟨by omega, by omega⟩ ⟨by omega, by omega⟩ dX9_fits_200 rfl (by decide) (fun h_200 => ?_) (fun h_200 => ?_)
                            ·
                              obtain rfl : c = (N_lf v x).toNat := by omega
                              obtain ⟨b1, b2, b3⟩ := N_gs_R (h := (N_wx v x)) b1 (N_lf v x).toNat (fun j _ => N_wx_in j) (by omega)
                              refine r_iconst F dX9_fits_225 rfl ?_
                              refine r_ist8 F (by decide) rfl dX9_fits_226 rfl ?_
                              refine r_iload F rfl dX9_fits_228 rfl ?_
                              refine r_iload F rfl dX9_fits_230 rfl ?_
                              refine r_icmp_ge F (tgt := 274) ⟨by omega, by omega⟩ ⟨by omega, by omega⟩ dX9_fits_232 rfl (by decide) (fun h_232 => ?_) (fun h_232 => ?_)
                              ·
                                exfalso; omega
                              ·
                                refine r_iload F rfl dX9_fits_235 rfl ?_
                                refine r_if_eq F (tgt := 274) ja_b_in dX9_fits_237 rfl (by decide) (fun h_237 => ?_) (fun h_237 => ?_)
                                ·
                                  have b_237 : ¬ (N_lng v x) := ja_b_0.mp h_237
                                  refine r_iload F rfl dX9_fits_274 rfl ?_
                                  refine r_if_eq F (tgt := 286) ja_b_in dX9_fits_276 rfl (by decide) (fun h_276 => ?_) (fun h_276 => ?_)
                                  ·
                                    have b_276 : ¬ (N_sht v x) := ja_b_0.mp h_276
                                    refine r_iload F rfl dX9_fits_286 rfl ?_
                                    refine r_ist8 F (by decide) rfl dX9_fits_288 rfl ?_
                                    have lp4 : ∀ (d c : Nat), c + d = (v 0 - N_lf v x).toNat → ja_W C 0 0 lay (ja_rw G1 (m + 1) (N_gs (N_gs (N_f0 v x) (N_wx v x) (N_lf v x).toNat) (fun i => N_wx v x ((N_lf v x).toNat + i)) c)) n 290 [some (.ref (m)), some (.int (ja_I (x))), some (.int (ja_I (v 0))), some (.int (ja_I ((N_lv v (x + 1))))), some (.int (ja_I ((N_tg v)))), some (.int (ja_I ((ja_b (N_sht v x))))), some (.int (ja_I ((ja_b (N_lng v x))))), some (.int (ja_I ((N_lf v x)))), some (.int (ja_I ((N_lf v x + (c : Int)))))] [] := by
                                      intro d
                                      induction d with
                                      | zero =>
                                        intro c hc
                                        obtain ⟨w1, w2, w3⟩ := N_gs_R (h := (fun i => N_wx v x ((N_lf v x).toNat + i))) b1 c (fun j _ => N_wx_in _) (by omega)
                                        have wC := w1.C
                                        refine r_iload F rfl dX9_fits_290 rfl ?_
                                        refine r_iload_n F rfl rfl dX9_fits_292 rfl ?_
                                        refine r_icmp_ge F (tgt := 313) ⟨by omega, by omega⟩ ⟨by omega, by omega⟩ dX9_fits_293 rfl (by decide) (fun h_293 => ?_) (fun h_293 => ?_)
                                        ·
                                          exact r_vret F Rt dX9_fits_313 (by decide) ⟨rfl, rfl, rfl, G1, hge.tr hG1.ge, by rw [N_fi, if_neg hs, if_neg hl, show (v 0 - N_lf v x).toNat = c by omega]⟩
                                        ·
                                          exfalso; omega
                                      | succ d ih =>
                                        intro c hc
                                        obtain ⟨w1, w2, w3⟩ := N_gs_R (h := (fun i => N_wx v x ((N_lf v x).toNat + i))) b1 c (fun j _ => N_wx_in _) (by omega)
                                        have wC := w1.C
                                        refine r_iload F rfl dX9_fits_290 rfl ?_
                                        refine r_iload_n F rfl rfl dX9_fits_292 rfl ?_
                                        refine r_icmp_ge F (tgt := 313) ⟨by omega, by omega⟩ ⟨by omega, by omega⟩ dX9_fits_293 rfl (by decide) (fun h_293 => ?_) (fun h_293 => ?_)
                                        ·
                                          exfalso; omega
                                        ·
                                          refine r_aload_n F rfl rfl dX9_fits_296 rfl ?_
                                          refine r_aload_n F rfl rfl dX9_fits_297 rfl ?_
                                          refine r_getR F f_X9_29 (hM.1) rfl dX9_fits_298 rfl ?_
                                          refine r_iload F rfl dX9_fits_301 rfl ?_
                                          refine r_iald F (ja_LM_7 hM) (by omega) (by omega) (by decide) dX9_fits_303 rfl ?_
                                          refine r_eqz (z := (N_wx v x ((N_lf v x).toNat + c))) (by rw [ja_rw_n (by omega), hx8 _ (by omega)] <;> congr 1 <;> omega) ?_
                                          refine r_eqz (z := N_wx v x ((N_lf v x).toNat + c)) rfl ?_
                                          refine r_callV F GC (c_X9_gives _ _ _ _ hM w1) v_X9_120 rfl (hM.1) rfl (by decide) (by decide) (Nat.le_of_ble_eq_true rfl) rfl dX9_fits_304 rfl (fun v lay' mem' n' hp => ?_)
                                          obtain ⟨q1, q2, q3, q4⟩ := hp
                                          subst q1; subst q2; subst q3; subst q4
                                          refine r_inc8 F (by decide) rfl dX9_fits_307 rfl ?_
                                          refine r_goto F (tgt := 290) dX9_fits_310 (by decide) ?_
                                          rw [show (N_lf v x + (c : Int)) + 1 = (N_lf v x + ((c + 1 : Nat) : Int)) by omega]
                                          exact ih (c + 1) (by omega)
                                    have h0 := lp4 ((v 0 - N_lf v x).toNat) 0 (by omega)
                                    rw [show (N_lf v x + ((0 : Nat) : Int)) = (N_lf v x) by omega] at h0
                                    exact h0
                                  ·
                                    have b_276 : (N_sht v x) := ja_b_1 h_276
                                    exact absurd b_276 hs
                                ·
                                  have b_237 : (N_lng v x) := ja_b_1 h_237
                                  exact absurd b_237 hl
                            ·
                              exfalso; omega
                          | succ d ih =>
                            intro c hc
                            obtain ⟨w1, w2, w3⟩ := N_gs_R (h := (N_wx v x)) b1 c (fun j _ => N_wx_in j) (by omega)
                            have wC := w1.C
                            refine r_iload F rfl dX9_fits_196 rfl ?_
                            refine r_iload F rfl dX9_fits_198 rfl ?_
                            refine r_icmp_ge F (tgt := 225) ⟨by omega, by omega⟩ ⟨by omega, by omega⟩ dX9_fits_200 rfl (by decide) (fun h_200 => ?_) (fun h_200 => ?_)
                            ·
                              exfalso; omega
                            ·
                              refine r_iload F rfl dX9_fits_203 rfl ?_
                              refine r_if_ne F (tgt := 225) ja_b_in dX9_fits_205 rfl (by decide) (fun h_205 => ?_) (fun h_205 => ?_)
                              ·
                                have b_205 : (N_sht v x) := ja_b_1 h_205
                                exact absurd b_205 hs
                              ·
                                have b_205 : ¬ (N_sht v x) := ja_b_0.mp h_205
                                refine r_aload_n F rfl rfl dX9_fits_208 rfl ?_
                                refine r_aload_n F rfl rfl dX9_fits_209 rfl ?_
                                refine r_getR F f_X9_29 (hM.1) rfl dX9_fits_210 rfl ?_
                                refine r_iload F rfl dX9_fits_213 rfl ?_
                                refine r_iald F (ja_LM_7 hM) (by omega) (by omega) (by decide) dX9_fits_215 rfl ?_
                                refine r_eqz (z := (N_wx v x c)) (by rw [ja_rw_n (by omega), hx8 _ (by omega)] <;> congr 1 <;> omega) ?_
                                refine r_eqz (z := N_wx v x c) rfl ?_
                                refine r_callV F GC (c_X9_gives _ _ _ _ hM w1) v_X9_120 rfl (hM.1) rfl (by decide) (by decide) (Nat.le_of_ble_eq_true rfl) rfl dX9_fits_216 rfl (fun v lay' mem' n' hp => ?_)
                                obtain ⟨q1, q2, q3, q4⟩ := hp
                                subst q1; subst q2; subst q3; subst q4
                                refine r_inc8 F (by decide) rfl dX9_fits_219 rfl ?_
                                refine r_goto F (tgt := 196) dX9_fits_222 (by decide) ?_
                                exact ih (c + 1) (by omega)
                        exact lp2 ((N_lf v x).toNat) 0 (by omega)
                      ·
                        have b_156 : (N_sht v x) := ja_b_1 h_156
                        exact absurd b_156 hs
              refine r_iload F rfl dX9_fits_132 rfl ?_
              refine r_if_eq F (tgt := 141) ja_b_in dX9_fits_134 rfl (by decide) (fun h_134 => ?_) (fun h_134 => ?_)
              ·
                have b_134 : ¬ (N_lng v x) := ja_b_0.mp h_134
                refine r_iconst F dX9_fits_141 rfl ?_
                refine r_eqz (z := ja_b (N_lng v x)) (by unfold ja_b; first | rw [if_pos b_134] | rw [if_neg b_134]) ?_
                exact J142
              ·
                have b_134 : (N_lng v x) := ja_b_1 h_134
                refine r_iconst F dX9_fits_137 rfl ?_
                refine r_goto F (tgt := 142) dX9_fits_138 (by decide) ?_
                refine r_eqz (z := ja_b (N_lng v x)) (by unfold ja_b; first | rw [if_pos b_134] | rw [if_neg b_134]) ?_
                exact J142
            refine r_iload F rfl dX9_fits_112 rfl ?_
            refine r_if_eq F (tgt := 121) ja_b_in dX9_fits_114 rfl (by decide) (fun h_114 => ?_) (fun h_114 => ?_)
            ·
              have b_114 : ¬ (N_sht v x) := ja_b_0.mp h_114
              refine r_iconst F dX9_fits_121 rfl ?_
              refine r_eqz (z := ja_b (N_sht v x)) (by unfold ja_b; first | rw [if_pos b_114] | rw [if_neg b_114]) ?_
              exact J122
            ·
              have b_114 : (N_sht v x) := ja_b_1 h_114
              refine r_iconst F dX9_fits_117 rfl ?_
              refine r_goto F (tgt := 122) dX9_fits_118 (by decide) ?_
              refine r_eqz (z := ja_b (N_sht v x)) (by unfold ja_b; first | rw [if_pos b_114] | rw [if_neg b_114]) ?_
              exact J122
          refine r_aload_n F rfl rfl dX9_fits_72 rfl ?_
          refine r_getR F f_X9_7 (hM.1) rfl dX9_fits_73 rfl ?_
          refine r_bipush F (by decide) dX9_fits_76 rfl ?_
          refine r_iald F (ja_LM_1 hM) (by omega) (by omega) (by decide) dX9_fits_78 rfl ?_
          refine r_eqz (z := (v 8)) (by rw [ja_rw_s, show Int.toNat 8 = 8 from rfl]) ?_
          refine r_iconst F dX9_fits_79 rfl ?_
          refine r_icmp_ne F (tgt := 95) ⟨by omega, by omega⟩ ⟨by omega, by omega⟩ dX9_fits_80 rfl (by decide) (fun h_80 => ?_) (fun h_80 => ?_)
          ·
            refine r_iconst F dX9_fits_95 rfl ?_
            refine r_eqz (z := ja_b (N_lng v x)) (by unfold ja_b; first | rw [if_pos ⟨by omega, by omega⟩] | rw [if_neg (fun q => by have q1 := q.1; have q2 := q.2; omega)]) ?_
            exact J96
          ·
            refine r_iload_n F rfl rfl dX9_fits_83 rfl ?_
            refine r_iload_n F rfl rfl dX9_fits_84 rfl ?_
            refine r_iadd F dX9_fits_85 rfl ?_
            refine r_iload F rfl dX9_fits_86 rfl ?_
            refine r_icmp_ge F (tgt := 95) ⟨by omega, by omega⟩ ⟨by omega, by omega⟩ dX9_fits_88 rfl (by decide) (fun h_88 => ?_) (fun h_88 => ?_)
            ·
              refine r_iconst F dX9_fits_95 rfl ?_
              refine r_eqz (z := ja_b (N_lng v x)) (by unfold ja_b; first | rw [if_pos ⟨by omega, by omega⟩] | rw [if_neg (fun q => by have q1 := q.1; have q2 := q.2; omega)]) ?_
              exact J96
            ·
              refine r_iconst F dX9_fits_91 rfl ?_
              refine r_goto F (tgt := 96) dX9_fits_92 (by decide) ?_
              refine r_eqz (z := ja_b (N_lng v x)) (by unfold ja_b; first | rw [if_pos ⟨by omega, by omega⟩] | rw [if_neg (fun q => by have q1 := q.1; have q2 := q.2; omega)]) ?_
              exact J96
        refine r_aload_n F rfl rfl dX9_fits_46 rfl ?_
        refine r_getR F f_X9_7 (hM.1) rfl dX9_fits_47 rfl ?_
        refine r_bipush F (by decide) dX9_fits_50 rfl ?_
        refine r_iald F (ja_LM_1 hM) (by omega) (by omega) (by decide) dX9_fits_52 rfl ?_
        refine r_eqz (z := (v 8)) (by rw [ja_rw_s, show Int.toNat 8 = 8 from rfl]) ?_
        refine r_iconst F dX9_fits_53 rfl ?_
        refine r_icmp_ne F (tgt := 69) ⟨by omega, by omega⟩ ⟨by omega, by omega⟩ dX9_fits_54 rfl (by decide) (fun h_54 => ?_) (fun h_54 => ?_)
        ·
          refine r_iconst F dX9_fits_69 rfl ?_
          refine r_eqz (z := ja_b (N_sht v x)) (by unfold ja_b; first | rw [if_pos ⟨by omega, by omega⟩] | rw [if_neg (fun q => by have q1 := q.1; have q2 := q.2; omega)]) ?_
          exact J70
        ·
          refine r_iload_n F rfl rfl dX9_fits_57 rfl ?_
          refine r_iload F rfl dX9_fits_58 rfl ?_
          refine r_iload_n F rfl rfl dX9_fits_60 rfl ?_
          refine r_iadd F dX9_fits_61 rfl ?_
          refine r_icmp_le F (tgt := 69) ⟨by omega, by omega⟩ ⟨by omega, by omega⟩ dX9_fits_62 rfl (by decide) (fun h_62 => ?_) (fun h_62 => ?_)
          ·
            refine r_iconst F dX9_fits_69 rfl ?_
            refine r_eqz (z := ja_b (N_sht v x)) (by unfold ja_b; first | rw [if_pos ⟨by omega, by omega⟩] | rw [if_neg (fun q => by have q1 := q.1; have q2 := q.2; omega)]) ?_
            exact J70
          ·
            refine r_iconst F dX9_fits_65 rfl ?_
            refine r_goto F (tgt := 70) dX9_fits_66 (by decide) ?_
            refine r_eqz (z := ja_b (N_sht v x)) (by unfold ja_b; first | rw [if_pos ⟨by omega, by omega⟩] | rw [if_neg (fun q => by have q1 := q.1; have q2 := q.2; omega)]) ?_
            exact J70
      ·
        exfalso; omega
    | succ d ih =>
      intro c hc g1 hg1
      refine r_iload_n F rfl rfl dX9_fits_9 rfl ?_
      refine r_iload_n F rfl rfl dX9_fits_10 rfl ?_
      refine r_icmp_ge F (tgt := 32) ⟨by omega, by omega⟩ ⟨by omega, by omega⟩ dX9_fits_11 rfl (by decide) (fun h_11 => ?_) (fun h_11 => ?_)
      ·
        exfalso; omega
      ·
        refine r_aload_n F rfl rfl dX9_fits_14 rfl ?_
        refine r_getR F f_X9_29 (hM.1) rfl dX9_fits_15 rfl ?_
        refine r_iload_n F rfl rfl dX9_fits_18 rfl ?_
        refine r_aload_n F rfl rfl dX9_fits_19 rfl ?_
        refine r_iload_n F rfl rfl dX9_fits_20 rfl ?_
        refine r_iload_n F rfl rfl dX9_fits_21 rfl ?_
        refine r_callV F GC (c_X9_sampleOf _ _ _ _ hM hS ⟨by omega, by omega⟩ ⟨by omega, by omega⟩) v_X9_104 rfl (hM.1) rfl (by decide) (by decide) (Nat.le_of_ble_eq_true rfl) rfl dX9_fits_22 rfl (fun v lay' mem' n' hp => ?_)
        obtain ⟨q1, q2, q3, q4⟩ := hp
        subst q1; subst q2; subst q3; subst q4
        refine r_iast F (ja_LM_7 hM) (by omega) (by omega) (by decide) dX9_fits_25 rfl ?_
        refine r_mem (mem' := ja_rw (ja_up (ja_rw G (m + 7) g1) (m + 7) (Int.toNat (c : Int)) _) (m + 1) v) (ja_up_rw (by omega)) ?_
        refine r_inc3 F (by decide) rfl dX9_fits_26 rfl ?_
        refine r_goto F (tgt := 9) dX9_fits_29 (by decide) ?_
        rw [ja_rw_up, show Int.toNat (c : Int) = c by omega]
        refine ih (c + 1) (by omega) _ (fun j hj => ?_)
        by_cases hjc : j = c
        · subst hjc
          rw [ja_rs_s]
          rfl
        · rw [ja_rs_n hjc]
          exact hg1 j (by omega)
  have h0 := lpx (v 0).toNat 0 (by omega) (G (m + 7)) (fun j hj => by omega)
  rw [ja_rw_self] at h0
  exact h0
end
section
abbrev rm_X9_lagOfHistory : Room := { frames := 1, cells := 0, slots := 0, locals := 21 }
set_option maxRecDepth 100000 in
set_option maxHeartbeats 800000 in
theorem c_X9_lagOfHistory (l : Launch) (D : va_G) (cA : Nat → ClassId) (B : Nat) {lay : ja_Y} {n : Nat} {m : Nat} {G : ja_M} {v : Nat → Int} (hM : ja_LM lay m) (hR : N_R v) : ja_Mt l D cA B yX9_lagOfHistory cX9_lagOfHistory 6 (some .int) rm_X9_lagOfHistory [.ref m] lay (ja_rw G (m + 1) v) n (ja_rd lay (ja_rw G (m + 1) v) n (some (.int (ja_I (N_lh v))))) := by
  refine ja_enter [some (.ref m), none, none, none, none, none] (by decide) (Nat.le_of_ble_eq_true rfl) (fun q hq => hq) (fun C F Rt GC hnm => ?_)
  have hC := hR.C
  have hg : ∀ j, ja_sp (N_og v j) := fun j => N_ol_in hR
  have hlk : N_lk v ≤ 14 ∧ (4 ≤ v 12 → 2 * ((N_lk v : Int) + 2) ≤ v 12 ∧ (N_lk v = 14 ∨ v 12 < 2 * ((N_lk v : Int) + 3))) := by
    unfold N_lk
    split <;> omega
  refine r_iconst F dX9_lagOfHistory_0 rfl ?_
  refine r_ist1 F (by decide) rfl dX9_lagOfHistory_1 rfl ?_
  refine r_iconst F dX9_lagOfHistory_2 rfl ?_
  refine r_ist2 F (by decide) rfl dX9_lagOfHistory_3 rfl ?_
  refine r_iconst F dX9_lagOfHistory_4 rfl ?_
  refine r_ist3 F (by decide) rfl dX9_lagOfHistory_5 rfl ?_
  have loop : ∀ (d c : Nat), c + d = N_lk v → 4 ≤ v 12 → ja_W C 0 0 lay (ja_rw G (m + 1) v) n 6 [some (.ref m), some (.int (ja_I (P_lg (N_og v) 1 c).1)), some (.int (ja_I (P_lg (N_og v) 1 c).2)), some (.int (ja_I ((c : Int) + 3))), none, none] [] := by
    intro d
    induction d with
    | zero =>
      intro c hc h4
      have b1 := P_lg_in (ex := 1) hg c (by omega)
      have b2 := P_dif_in hg (c + 3) (c + 3)
      have b3 := ja_mulb b2.1 (by omega : P_dif (N_og v) (c + 3) (c + 3) ≤ 3400) (by omega : 0 ≤ (P_lg (N_og v) 1 c).1) (by omega : (P_lg (N_og v) 1 c).1 ≤ 16)
      have b4 := ja_mulb b1.2.1 b1.2.2 (by omega : 0 ≤ (c : Int) + 3) (by omega : (c : Int) + 3 ≤ 17)
      refine r_iload_n F rfl rfl dX9_lagOfHistory_6 rfl ?_
      refine r_bipush F (by decide) dX9_lagOfHistory_7 rfl ?_
      refine r_icmp_gt F (tgt := 91) ⟨by omega, by omega⟩ ⟨by omega, by omega⟩ dX9_lagOfHistory_9 rfl (by decide) (fun h_9 => ?_) (fun h_9 => ?_)
      ·
        refine r_iload_n F rfl rfl dX9_lagOfHistory_91 rfl ?_
        exact r_iret F Rt dX9_lagOfHistory_92 (by decide) ⟨by rw [N_lh, if_neg (by omega), show N_lk v = c by omega], rfl, rfl, rfl⟩
      ·
        refine r_iconst F dX9_lagOfHistory_12 rfl ?_
        refine r_iload_n F rfl rfl dX9_lagOfHistory_13 rfl ?_
        refine r_imul F dX9_lagOfHistory_14 rfl ?_
        refine r_aload_n F rfl rfl dX9_lagOfHistory_15 rfl ?_
        refine r_getR F f_X9_7 (hM.1) rfl dX9_lagOfHistory_16 rfl ?_
        refine r_bipush F (by decide) dX9_lagOfHistory_19 rfl ?_
        refine r_iald F (ja_LM_1 hM) (by omega) (by omega) (by decide) dX9_lagOfHistory_21 rfl ?_
        refine r_eqz (z := (v 12)) (by rw [ja_rw_s, show Int.toNat 12 = 12 from rfl]) ?_
        refine r_icmp_gt F (tgt := 91) ⟨by omega, by omega⟩ ⟨by omega, by omega⟩ dX9_lagOfHistory_22 rfl (by decide) (fun h_22 => ?_) (fun h_22 => ?_)
        ·
          refine r_iload_n F rfl rfl dX9_lagOfHistory_91 rfl ?_
          exact r_iret F Rt dX9_lagOfHistory_92 (by decide) ⟨by rw [N_lh, if_neg (by omega), show N_lk v = c by omega], rfl, rfl, rfl⟩
        ·
          exfalso; omega
    | succ d ih =>
      intro c hc h4
      have b1 := P_lg_in (ex := 1) hg c (by omega)
      have b2 := P_dif_in hg (c + 3) (c + 3)
      have b3 := ja_mulb b2.1 (by omega : P_dif (N_og v) (c + 3) (c + 3) ≤ 3400) (by omega : 0 ≤ (P_lg (N_og v) 1 c).1) (by omega : (P_lg (N_og v) 1 c).1 ≤ 16)
      have b4 := ja_mulb b1.2.1 b1.2.2 (by omega : 0 ≤ (c : Int) + 3) (by omega : (c : Int) + 3 ≤ 17)
      refine r_iload_n F rfl rfl dX9_lagOfHistory_6 rfl ?_
      refine r_bipush F (by decide) dX9_lagOfHistory_7 rfl ?_
      refine r_icmp_gt F (tgt := 91) ⟨by omega, by omega⟩ ⟨by omega, by omega⟩ dX9_lagOfHistory_9 rfl (by decide) (fun h_9 => ?_) (fun h_9 => ?_)
      ·
        exfalso; omega
      ·
        refine r_iconst F dX9_lagOfHistory_12 rfl ?_
        refine r_iload_n F rfl rfl dX9_lagOfHistory_13 rfl ?_
        refine r_imul F dX9_lagOfHistory_14 rfl ?_
        refine r_aload_n F rfl rfl dX9_lagOfHistory_15 rfl ?_
        refine r_getR F f_X9_7 (hM.1) rfl dX9_lagOfHistory_16 rfl ?_
        refine r_bipush F (by decide) dX9_lagOfHistory_19 rfl ?_
        refine r_iald F (ja_LM_1 hM) (by omega) (by omega) (by decide) dX9_lagOfHistory_21 rfl ?_
        refine r_eqz (z := (v 12)) (by rw [ja_rw_s, show Int.toNat 12 = 12 from rfl]) ?_
        refine r_icmp_gt F (tgt := 91) ⟨by omega, by omega⟩ ⟨by omega, by omega⟩ dX9_lagOfHistory_22 rfl (by decide) (fun h_22 => ?_) (fun h_22 => ?_)
        ·
          exfalso; omega
        ·
          refine r_iconst F dX9_lagOfHistory_25 rfl ?_
          refine r_ist4 F (by decide) rfl dX9_lagOfHistory_26 rfl ?_
          refine r_iconst F dX9_lagOfHistory_28 rfl ?_
          refine r_ist5 F (by decide) rfl dX9_lagOfHistory_29 rfl ?_
          have lpd : ∀ (d e : Nat), e + d = (c + 3) → ja_W C 0 0 lay (ja_rw G (m + 1) (v)) n 31 [some (.ref (m)), some (.int (ja_I ((P_lg (N_og v) 1 c).1))), some (.int (ja_I ((P_lg (N_og v) 1 c).2))), some (.int (ja_I (((c : Int) + 3)))), some (.int (ja_I (P_dif (N_og v) (c + 3) e))), some (.int (ja_I (((e : Int) + 1))))] [] := by
            intro d
            induction d with
            | zero =>
              intro e he
              refine r_iload F rfl dX9_lagOfHistory_31 rfl ?_
              refine r_iload_n F rfl rfl dX9_lagOfHistory_33 rfl ?_
              refine r_icmp_gt F (tgt := 66) ⟨by omega, by omega⟩ ⟨by omega, by omega⟩ dX9_lagOfHistory_34 rfl (by decide) (fun h_34 => ?_) (fun h_34 => ?_)
              ·
                obtain rfl : e = c + 3 := by omega
                refine r_iload_n F rfl rfl dX9_lagOfHistory_66 rfl ?_
                refine r_if_eq F (tgt := 80) ⟨by omega, by omega⟩ dX9_lagOfHistory_67 rfl (by decide) (fun h_67 => ?_) (fun h_67 => ?_)
                ·
                  exfalso; omega
                ·
                  refine r_iload F rfl dX9_lagOfHistory_70 rfl ?_
                  refine r_iload_n F rfl rfl dX9_lagOfHistory_72 rfl ?_
                  refine r_imul F dX9_lagOfHistory_73 rfl ?_
                  refine r_iload_n F rfl rfl dX9_lagOfHistory_74 rfl ?_
                  refine r_iload_n F rfl rfl dX9_lagOfHistory_75 rfl ?_
                  refine r_imul F dX9_lagOfHistory_76 rfl ?_
                  refine r_icmp_ge F (tgt := 85) ⟨by omega, by omega⟩ ⟨by omega, by omega⟩ dX9_lagOfHistory_77 rfl (by decide) (fun h_77 => ?_) (fun h_77 => ?_)
                  ·
                    refine r_inc3 F (by decide) rfl dX9_lagOfHistory_85 rfl ?_
                    refine r_goto F (tgt := 6) dX9_lagOfHistory_88 (by decide) ?_
                    rw [show (c : Int) + 3 + 1 = ((c + 1 : Nat) : Int) + 3 by omega]
                    refine r_msk [true, true, true, true, false, false] rfl ?_
                    have h0 := ih (c + 1) (by omega) h4
                    first
                      | (rw [P_lg_a (by decide) h_77] at h0; exact h0)
                      | (rw [P_lg_b (by decide) h_77] at h0; exact h0)
                  ·
                    refine r_iload_n F rfl rfl dX9_lagOfHistory_80 rfl ?_
                    refine r_ist1 F (by decide) rfl dX9_lagOfHistory_81 rfl ?_
                    refine r_iload F rfl dX9_lagOfHistory_82 rfl ?_
                    refine r_ist2 F (by decide) rfl dX9_lagOfHistory_84 rfl ?_
                    refine r_inc3 F (by decide) rfl dX9_lagOfHistory_85 rfl ?_
                    refine r_goto F (tgt := 6) dX9_lagOfHistory_88 (by decide) ?_
                    rw [show (c : Int) + 3 + 1 = ((c + 1 : Nat) : Int) + 3 by omega]
                    refine r_msk [true, true, true, true, false, false] rfl ?_
                    have h0 := ih (c + 1) (by omega) h4
                    first
                      | (rw [P_lg_a (by decide) h_77] at h0; exact h0)
                      | (rw [P_lg_b (by decide) h_77] at h0; exact h0)
              ·
                exfalso; omega
            | succ d ihe =>
              intro e he
              have u1 := hg e
              have u2 := hg (e + (c + 3))
              obtain ⟨u3, u4⟩ := id u1
              obtain ⟨u5, u6⟩ := id u2
              refine r_iload F rfl dX9_lagOfHistory_31 rfl ?_
              refine r_iload_n F rfl rfl dX9_lagOfHistory_33 rfl ?_
              refine r_icmp_gt F (tgt := 66) ⟨by omega, by omega⟩ ⟨by omega, by omega⟩ dX9_lagOfHistory_34 rfl (by decide) (fun h_34 => ?_) (fun h_34 => ?_)
              ·
                exfalso; omega
              ·
                refine r_iload F rfl dX9_lagOfHistory_37 rfl ?_
                refine r_aload_n F rfl rfl dX9_lagOfHistory_39 rfl ?_
                refine r_iload F rfl dX9_lagOfHistory_40 rfl ?_
                refine r_callV F GC (c_X9_old _ _ _ _ hM hR ⟨by omega, by omega⟩) v_X9_123 rfl (hM.1) rfl (by decide) (by decide) (Nat.le_of_ble_eq_true rfl) rfl dX9_lagOfHistory_42 rfl (fun v lay' mem' n' hp => ?_)
                obtain ⟨q1, q2, q3, q4⟩ := hp
                subst q1; subst q2; subst q3; subst q4
                refine r_eqz (z := N_og v e) rfl ?_
                refine r_aload_n F rfl rfl dX9_lagOfHistory_45 rfl ?_
                refine r_iload F rfl dX9_lagOfHistory_46 rfl ?_
                refine r_iload_n F rfl rfl dX9_lagOfHistory_48 rfl ?_
                refine r_iadd F dX9_lagOfHistory_49 rfl ?_
                refine r_callV F GC (c_X9_old _ _ _ _ hM hR ⟨by omega, by omega⟩) v_X9_123 rfl (hM.1) rfl (by decide) (by decide) (Nat.le_of_ble_eq_true rfl) rfl dX9_lagOfHistory_50 rfl (fun v lay' mem' n' hp => ?_)
                obtain ⟨q1, q2, q3, q4⟩ := hp
                subst q1; subst q2; subst q3; subst q4
                refine r_eqz (z := N_og v (e + (c + 3))) (by unfold N_og; congr 1 <;> omega) ?_
                refine r_isub F dX9_lagOfHistory_53 rfl ?_
                refine r_callS F GC (c_X9_size _ _ _ _ ⟨by omega, by omega⟩) s_X9_101 rfl (by decide) (by decide) (Nat.le_of_ble_eq_true rfl) rfl dX9_lagOfHistory_54 rfl (fun v lay' mem' n' hp => ?_)
                obtain ⟨q1, q2, q3, q4⟩ := hp
                subst q1; subst q2; subst q3; subst q4
                refine r_iadd F dX9_lagOfHistory_57 rfl ?_
                refine r_ist4 F (by decide) rfl dX9_lagOfHistory_58 rfl ?_
                refine r_inc5 F (by decide) rfl dX9_lagOfHistory_60 rfl ?_
                refine r_goto F (tgt := 31) dX9_lagOfHistory_63 (by decide) ?_
                rw [show (e : Int) + 1 + 1 = ((e + 1 : Nat) : Int) + 1 by omega]
                exact ihe (e + 1) (by omega)
          exact lpd ((c + 3)) 0 (by omega)
  refine r_iload_n F rfl rfl dX9_lagOfHistory_6 rfl ?_
  refine r_bipush F (by decide) dX9_lagOfHistory_7 rfl ?_
  refine r_icmp_gt F (tgt := 91) ⟨by omega, by omega⟩ ⟨by omega, by omega⟩ dX9_lagOfHistory_9 rfl (by decide) (fun h_9 => ?_) (fun h_9 => ?_)
  ·
    exfalso; omega
  ·
    refine r_iconst F dX9_lagOfHistory_12 rfl ?_
    refine r_iload_n F rfl rfl dX9_lagOfHistory_13 rfl ?_
    refine r_imul F dX9_lagOfHistory_14 rfl ?_
    refine r_aload_n F rfl rfl dX9_lagOfHistory_15 rfl ?_
    refine r_getR F f_X9_7 (hM.1) rfl dX9_lagOfHistory_16 rfl ?_
    refine r_bipush F (by decide) dX9_lagOfHistory_19 rfl ?_
    refine r_iald F (ja_LM_1 hM) (by omega) (by omega) (by decide) dX9_lagOfHistory_21 rfl ?_
    refine r_eqz (z := (v 12)) (by rw [ja_rw_s, show Int.toNat 12 = 12 from rfl]) ?_
    refine r_icmp_gt F (tgt := 91) ⟨by omega, by omega⟩ ⟨by omega, by omega⟩ dX9_lagOfHistory_22 rfl (by decide) (fun h_22 => ?_) (fun h_22 => ?_)
    ·
      refine r_iload_n F rfl rfl dX9_lagOfHistory_91 rfl ?_
      exact r_iret F Rt dX9_lagOfHistory_92 (by decide) ⟨by rw [N_lh, if_pos (by omega)], rfl, rfl, rfl⟩
    ·
      refine r_iconst F dX9_lagOfHistory_25 rfl ?_
      refine r_ist4 F (by decide) rfl dX9_lagOfHistory_26 rfl ?_
      refine r_iconst F dX9_lagOfHistory_28 rfl ?_
      refine r_ist5 F (by decide) rfl dX9_lagOfHistory_29 rfl ?_
      have lpd : ∀ (d e : Nat), e + d = 2 → ja_W C 0 0 lay (ja_rw G (m + 1) (v)) n 31 [some (.ref (m)), some (.int (ja_I (0))), some (.int (ja_I (0))), some (.int (ja_I (2))), some (.int (ja_I (P_dif (N_og v) 2 e))), some (.int (ja_I (((e : Int) + 1))))] [] := by
        intro d
        induction d with
        | zero =>
          intro e he
          refine r_iload F rfl dX9_lagOfHistory_31 rfl ?_
          refine r_iload_n F rfl rfl dX9_lagOfHistory_33 rfl ?_
          refine r_icmp_gt F (tgt := 66) ⟨by omega, by omega⟩ ⟨by omega, by omega⟩ dX9_lagOfHistory_34 rfl (by decide) (fun h_34 => ?_) (fun h_34 => ?_)
          ·
            obtain rfl : e = 2 := by omega
            refine r_iload_n F rfl rfl dX9_lagOfHistory_66 rfl ?_
            refine r_if_eq F (tgt := 80) ⟨by omega, by omega⟩ dX9_lagOfHistory_67 rfl (by decide) (fun h_67 => ?_) (fun h_67 => ?_)
            ·
              refine r_iload_n F rfl rfl dX9_lagOfHistory_80 rfl ?_
              refine r_ist1 F (by decide) rfl dX9_lagOfHistory_81 rfl ?_
              refine r_iload F rfl dX9_lagOfHistory_82 rfl ?_
              refine r_ist2 F (by decide) rfl dX9_lagOfHistory_84 rfl ?_
              refine r_inc3 F (by decide) rfl dX9_lagOfHistory_85 rfl ?_
              refine r_goto F (tgt := 6) dX9_lagOfHistory_88 (by decide) ?_
              refine r_msk [true, true, true, true, false, false] rfl ?_
              exact loop (N_lk v) 0 (by omega) (by omega)
            ·
              exfalso; omega
          ·
            exfalso; omega
        | succ d ihe =>
          intro e he
          have u1 := hg e
          have u2 := hg (e + 2)
          obtain ⟨u3, u4⟩ := id u1
          obtain ⟨u5, u6⟩ := id u2
          refine r_iload F rfl dX9_lagOfHistory_31 rfl ?_
          refine r_iload_n F rfl rfl dX9_lagOfHistory_33 rfl ?_
          refine r_icmp_gt F (tgt := 66) ⟨by omega, by omega⟩ ⟨by omega, by omega⟩ dX9_lagOfHistory_34 rfl (by decide) (fun h_34 => ?_) (fun h_34 => ?_)
          ·
            exfalso; omega
          ·
            refine r_iload F rfl dX9_lagOfHistory_37 rfl ?_
            refine r_aload_n F rfl rfl dX9_lagOfHistory_39 rfl ?_
            refine r_iload F rfl dX9_lagOfHistory_40 rfl ?_
            refine r_callV F GC (c_X9_old _ _ _ _ hM hR ⟨by omega, by omega⟩) v_X9_123 rfl (hM.1) rfl (by decide) (by decide) (Nat.le_of_ble_eq_true rfl) rfl dX9_lagOfHistory_42 rfl (fun v lay' mem' n' hp => ?_)
            obtain ⟨q1, q2, q3, q4⟩ := hp
            subst q1; subst q2; subst q3; subst q4
            refine r_eqz (z := N_og v e) rfl ?_
            refine r_aload_n F rfl rfl dX9_lagOfHistory_45 rfl ?_
            refine r_iload F rfl dX9_lagOfHistory_46 rfl ?_
            refine r_iload_n F rfl rfl dX9_lagOfHistory_48 rfl ?_
            refine r_iadd F dX9_lagOfHistory_49 rfl ?_
            refine r_callV F GC (c_X9_old _ _ _ _ hM hR ⟨by omega, by omega⟩) v_X9_123 rfl (hM.1) rfl (by decide) (by decide) (Nat.le_of_ble_eq_true rfl) rfl dX9_lagOfHistory_50 rfl (fun v lay' mem' n' hp => ?_)
            obtain ⟨q1, q2, q3, q4⟩ := hp
            subst q1; subst q2; subst q3; subst q4
            refine r_eqz (z := N_og v (e + 2)) (by unfold N_og; congr 1 <;> omega) ?_
            refine r_isub F dX9_lagOfHistory_53 rfl ?_
            refine r_callS F GC (c_X9_size _ _ _ _ ⟨by omega, by omega⟩) s_X9_101 rfl (by decide) (by decide) (Nat.le_of_ble_eq_true rfl) rfl dX9_lagOfHistory_54 rfl (fun v lay' mem' n' hp => ?_)
            obtain ⟨q1, q2, q3, q4⟩ := hp
            subst q1; subst q2; subst q3; subst q4
            refine r_iadd F dX9_lagOfHistory_57 rfl ?_
            refine r_ist4 F (by decide) rfl dX9_lagOfHistory_58 rfl ?_
            refine r_inc5 F (by decide) rfl dX9_lagOfHistory_60 rfl ?_
            refine r_goto F (tgt := 31) dX9_lagOfHistory_63 (by decide) ?_
            rw [show (e : Int) + 1 + 1 = ((e + 1 : Nat) : Int) + 1 by omega]
            exact ihe (e + 1) (by omega)
      exact lpd (2) 0 (by omega)
abbrev rm_X9_conceals : Room := { frames := 2, cells := 0, slots := 0, locals := 46 }
set_option maxRecDepth 100000 in
set_option maxHeartbeats 800000 in
theorem c_X9_conceals (l : Launch) (D : va_G) (cA : Nat → ClassId) (B : Nat) {lay : ja_Y} {n : Nat} {m : Nat} {G : ja_M} {v : Nat → Int} (hM : ja_LM lay m) (hR : N_R v) (h22 : v 22 = 0) : ja_Mt l D cA B yX9_conceals cX9_conceals 5 none rm_X9_conceals [.ref m] lay (ja_rw G (m + 1) v) n (ja_rd lay (ja_rw G (m + 1) (N_co v)) n (none)) := by
  refine ja_enter [some (.ref m), none, none, none, none] (by decide) (Nat.le_of_ble_eq_true rfl) (fun q hq => hq) (fun C F Rt GC hnm => ?_)
  have hC := hR.C
  have hS := hR.S
  have hS0 := hS.1
  have hlh := N_lh_in hR
  refine r_aload_n F rfl rfl dX9_conceals_0 rfl ?_
  refine r_callV F GC (c_X9_lagOfHistory _ _ _ _ hM hR) v_X9_126 rfl (hM.1) rfl (by decide) (by decide) (Nat.le_of_ble_eq_true rfl) rfl dX9_conceals_1 rfl (fun v lay' mem' n' hp => ?_)
  obtain ⟨q1, q2, q3, q4⟩ := hp
  subst q1; subst q2; subst q3; subst q4
  refine r_ist1 F (by decide) rfl dX9_conceals_4 rfl ?_
  refine r_iconst F dX9_conceals_5 rfl ?_
  refine r_ist2 F (by decide) rfl dX9_conceals_6 rfl ?_
  have loop : ∀ (d c : Nat), c + d = (v 0).toNat → ja_W C 0 0 lay (ja_rw G (m + 1) (N_gs v (N_cm v) c)) n 7 [some (.ref (m)), some (.int (ja_I (N_lh v))), some (.int (ja_I ((c : Int)))), none, none] [] := by
    intro d
    induction d with
    | zero =>
      intro c hc
      obtain ⟨w1, w2, w3⟩ := N_gs_R (h := N_cm v) hR c (fun j _ => N_cm_in hR j) (by omega)
      have wC := w1.C
      refine r_iload_n F rfl rfl dX9_conceals_7 rfl ?_
      refine r_aload_n F rfl rfl dX9_conceals_8 rfl ?_
      refine r_getR F f_X9_7 (hM.1) rfl dX9_conceals_9 rfl ?_
      refine r_iconst F dX9_conceals_12 rfl ?_
      refine r_iald F (ja_LM_1 hM) (by omega) (by omega) (by decide) dX9_conceals_13 rfl ?_
      refine r_eqz (z := (v 0)) (by rw [ja_rw_s, show Int.toNat 0 = 0 from rfl]; exact w3 0 (by omega) (by omega)) ?_
      refine r_icmp_ge F (tgt := 73) ⟨by omega, by omega⟩ ⟨by omega, by omega⟩ dX9_conceals_14 rfl (by decide) (fun h_14 => ?_) (fun h_14 => ?_)
      ·
        exact r_vret F Rt dX9_conceals_73 (by decide) ⟨rfl, rfl, by rw [N_co, show (v 0).toNat = c by omega], rfl⟩
      ·
        exfalso; omega
    | succ d ih =>
      intro c hc
      obtain ⟨w1, w2, w3⟩ := N_gs_R (h := N_cm v) hR c (fun j _ => N_cm_in hR j) (by omega)
      have wC := w1.C
      refine r_iload_n F rfl rfl dX9_conceals_7 rfl ?_
      refine r_aload_n F rfl rfl dX9_conceals_8 rfl ?_
      refine r_getR F f_X9_7 (hM.1) rfl dX9_conceals_9 rfl ?_
      refine r_iconst F dX9_conceals_12 rfl ?_
      refine r_iald F (ja_LM_1 hM) (by omega) (by omega) (by decide) dX9_conceals_13 rfl ?_
      refine r_eqz (z := (v 0)) (by rw [ja_rw_s, show Int.toNat 0 = 0 from rfl]; exact w3 0 (by omega) (by omega)) ?_
      refine r_icmp_ge F (tgt := 73) ⟨by omega, by omega⟩ ⟨by omega, by omega⟩ dX9_conceals_14 rfl (by decide) (fun h_14 => ?_) (fun h_14 => ?_)
      ·
        exfalso; omega
      ·
        have J34 : ja_W C 0 0 lay (ja_rw G (m + 1) (N_gs v (N_cm v) c)) n 34 [some (.ref (m)), some (.int (ja_I (N_lh v))), some (.int (ja_I ((c : Int)))), none, none] [.int (ja_I (if N_lh v = 0 then 0 else N_ol v (N_lh v - (c : Int) % N_lh v)))] := by
          refine r_ist3 F (by decide) rfl dX9_conceals_34 rfl ?_
          refine r_iconst F dX9_conceals_35 rfl ?_
          refine r_ist4 F (by decide) rfl dX9_conceals_36 rfl ?_
          have fdl : ∀ (d k : Nat) (s : Int), k + d = (v 13).toNat → ja_sp s → N_fd d s = N_cm v c → ja_W C 0 0 lay (ja_rw G (m + 1) (N_gs v (N_cm v) c)) n 38 [some (.ref m), some (.int (ja_I (N_lh v))), some (.int (ja_I (c : Int))), some (.int (ja_I s)), some (.int (ja_I (k : Int)))] [] := by
            intro d
            induction d with
            | zero =>
              intro k s hk hs hl
              obtain ⟨u1, u2⟩ := id hs
              refine r_iload F rfl dX9_conceals_38 rfl ?_
              refine r_aload_n F rfl rfl dX9_conceals_40 rfl ?_
              refine r_getR F f_X9_7 (hM.1) rfl dX9_conceals_41 rfl ?_
              refine r_bipush F (by decide) dX9_conceals_44 rfl ?_
              refine r_iald F (ja_LM_1 hM) (by omega) (by omega) (by decide) dX9_conceals_46 rfl ?_
              refine r_eqz (z := (v 13)) (by rw [ja_rw_s, show Int.toNat 13 = 13 from rfl]; exact w3 13 (by omega) (by omega)) ?_
              refine r_icmp_ge F (tgt := 62) ⟨by omega, by omega⟩ ⟨by omega, by omega⟩ dX9_conceals_47 rfl (by decide) (fun h_47 => ?_) (fun h_47 => ?_)
              ·
                obtain rfl : s = N_cm v c := hl
                refine r_aload_n F rfl rfl dX9_conceals_62 rfl ?_
                refine r_iload_n F rfl rfl dX9_conceals_63 rfl ?_
                refine r_callV F GC (c_X9_gives _ _ _ _ hM w1) v_X9_120 rfl (hM.1) rfl (by decide) (by decide) (Nat.le_of_ble_eq_true rfl) rfl dX9_conceals_64 rfl (fun v lay' mem' n' hp => ?_)
                obtain ⟨q1, q2, q3, q4⟩ := hp
                subst q1; subst q2; subst q3; subst q4
                refine r_inc2 F (by decide) rfl dX9_conceals_67 rfl ?_
                refine r_goto F (tgt := 7) dX9_conceals_70 (by decide) ?_
                refine r_msk [true, true, true, false, false] rfl ?_
                exact ih (c + 1) (by omega)
              ·
                exfalso; omega
            | succ d ihd =>
              intro k s hk hs hl
              obtain ⟨u1, u2⟩ := id hs
              refine r_iload F rfl dX9_conceals_38 rfl ?_
              refine r_aload_n F rfl rfl dX9_conceals_40 rfl ?_
              refine r_getR F f_X9_7 (hM.1) rfl dX9_conceals_41 rfl ?_
              refine r_bipush F (by decide) dX9_conceals_44 rfl ?_
              refine r_iald F (ja_LM_1 hM) (by omega) (by omega) (by decide) dX9_conceals_46 rfl ?_
              refine r_eqz (z := (v 13)) (by rw [ja_rw_s, show Int.toNat 13 = 13 from rfl]; exact w3 13 (by omega) (by omega)) ?_
              refine r_icmp_ge F (tgt := 62) ⟨by omega, by omega⟩ ⟨by omega, by omega⟩ dX9_conceals_47 rfl (by decide) (fun h_47 => ?_) (fun h_47 => ?_)
              ·
                exfalso; omega
              ·
                refine r_iload_n F rfl rfl dX9_conceals_50 rfl ?_
                refine r_iconst F dX9_conceals_51 rfl ?_
                refine r_imul F dX9_conceals_52 rfl ?_
                refine r_iconst F dX9_conceals_53 rfl ?_
                refine r_idiv F ⟨by omega, by omega⟩ ⟨by omega, by omega⟩ (by omega) dX9_conceals_54 rfl ?_
                refine r_ist3 F (by decide) rfl dX9_conceals_55 rfl ?_
                refine r_inc4 F (by decide) rfl dX9_conceals_56 rfl ?_
                refine r_goto F (tgt := 38) dX9_conceals_59 (by decide) ?_
                exact ihd (k + 1) _ (by omega) (P_fd1 hs) hl
          exact fdl (v 13).toNat 0 (if N_lh v = 0 then 0 else N_ol v (N_lh v - (c : Int) % N_lh v)) (by omega) (by split; exact ⟨by omega, by omega⟩; exact N_ol_in hR) rfl
        refine r_iload_n F rfl rfl dX9_conceals_17 rfl ?_
        refine r_if_ne F (tgt := 25) ⟨by omega, by omega⟩ dX9_conceals_18 rfl (by decide) (fun h_18 => ?_) (fun h_18 => ?_)
        ·
          have e1 := Int.emod_nonneg (c : Int) (show N_lh v ≠ 0 by omega)
          have e2 := Int.emod_lt_of_pos (c : Int) (show 0 < N_lh v by omega)
          refine r_aload_n F rfl rfl dX9_conceals_25 rfl ?_
          refine r_iload_n F rfl rfl dX9_conceals_26 rfl ?_
          refine r_iload_n F rfl rfl dX9_conceals_27 rfl ?_
          refine r_iload_n F rfl rfl dX9_conceals_28 rfl ?_
          refine r_iremP F ⟨by omega, by omega⟩ ⟨by omega, by omega⟩ (by omega) (by omega) dX9_conceals_29 rfl ?_
          refine r_isub F dX9_conceals_30 rfl ?_
          refine r_callV F GC (c_X9_old _ _ _ _ hM w1 ⟨by omega, by have := w3 12 (by omega) (by omega); omega⟩) v_X9_123 rfl (hM.1) rfl (by decide) (by decide) (Nat.le_of_ble_eq_true rfl) rfl dX9_conceals_31 rfl (fun v lay' mem' n' hp => ?_)
          obtain ⟨q1, q2, q3, q4⟩ := hp
          subst q1; subst q2; subst q3; subst q4
          refine r_eqz (z := N_ol v (N_lh v - (c : Int) % N_lh v)) w3.ol ?_
          refine r_eqz (z := if N_lh v = 0 then 0 else N_ol v (N_lh v - (c : Int) % N_lh v)) (by first | rw [if_pos (by omega)] | rw [if_neg (by omega)]) ?_
          exact J34
        ·
          refine r_iconst F dX9_conceals_21 rfl ?_
          refine r_goto F (tgt := 34) dX9_conceals_22 (by decide) ?_
          refine r_eqz (z := if N_lh v = 0 then 0 else N_ol v (N_lh v - (c : Int) % N_lh v)) (by first | rw [if_pos (by omega)] | rw [if_neg (by omega)]) ?_
          exact J34
  exact loop ((v 0).toNat) 0 (by omega)
end
section
abbrev rm_X9_takes : Room := { frames := 3, cells := 0, slots := 0, locals := 73 }
set_option maxRecDepth 100000 in
set_option maxHeartbeats 800000 in
theorem c_X9_takes (l : Launch) (D : va_G) (cA : Nat → ClassId) (B : Nat) {lay : ja_Y} {n : Nat} {m : Nat} {G : ja_M} {v : Nat → Int} (hM : ja_LM lay m) {t : Int} (hO : N_O v t) (hn : v 11 ≤ 999) : ja_Mt l D cA B yX9_takes cX9_takes 4 none rm_X9_takes [.ref m] lay (ja_rw G (m + 1) v) n (N_pg lay m n G (N_tk v) (none)) := by
  refine ja_enter [some (.ref m), none, none, none] (by decide) (Nat.le_of_ble_eq_true rfl) (fun q hq => hq) (fun C F Rt GC hnm => ?_)
  have hR := hO.1
  have hS := hR.S
  have hC := hR.C
  obtain ⟨o1, o2, o3, o4, o5, o6, o7⟩ := id hO.2.1
  obtain ⟨hu1, hu2, -⟩ := N_tu_R hO hn
  have hkd := @N_kd_in v (v 11)
  have hfr := hR.F (j := (30 + v 11).toNat) (by omega) (by omega)
  have hR0 : N_R (N_t0 v) := (hR.rs (i := 22) (show (0 : Int) ≤ 0 ∧ (0 : Int) ≤ 24 by omega)).rs (i := 23) (show (0 : Int) ≤ 0 ∧ (0 : Int) ≤ 24 by omega)
  have e13 : N_t0 v 13 = v 13 := by unfold N_t0; rw [ja_rs_n (by omega), ja_rs_n (by omega)]
  have e14 : N_t0 v 14 = v 14 := by unfold N_t0; rw [ja_rs_n (by omega), ja_rs_n (by omega)]
  have e22 : N_t0 v 22 = 0 := by unfold N_t0; rw [ja_rs_n (by omega), ja_rs_s]
  have hRc : N_R (N_tc (N_t0 v)) := by unfold N_tc; exact (hR0.rs (i := 13) (show 0 ≤ N_t0 v 13 + 1 ∧ N_t0 v 13 + 1 ≤ 1000 by omega)).rs (i := 14) (show 0 ≤ _ ∧ _ ≤ (1000 : Int) by split <;> omega)
  have hRf : N_R (ja_rs (N_t0 v) 13 0) := hR0.rs (i := 13) (show (0 : Int) ≤ 0 ∧ (0 : Int) ≤ 1000 by omega)
  refine r_aload_n F rfl rfl dX9_takes_0 rfl ?_
  refine r_getR F f_X9_7 (hM.1) rfl dX9_takes_1 rfl ?_
  refine r_bipush F (by decide) dX9_takes_4 rfl ?_
  refine r_iald F (ja_LM_1 hM) (by omega) (by omega) (by decide) dX9_takes_6 rfl ?_
  refine r_eqz (z := (v 11)) (by rw [ja_rw_s, show Int.toNat 11 = 11 from rfl]) ?_
  refine r_ist1 F (by decide) rfl dX9_takes_7 rfl ?_
  have J43 : ja_W C 0 0 lay (ja_rw G (m + 1) v) n 43 [some (.ref (m)), some (.int (ja_I ((v 11)))), none, none] [.int (ja_I (N_kd v (v 11)))] := by
    refine r_ist2 F (by decide) rfl dX9_takes_43 rfl ?_
    refine r_aload_n F rfl rfl dX9_takes_44 rfl ?_
    refine r_getR F f_X9_7 (hM.1) rfl dX9_takes_45 rfl ?_
    refine r_bipush F (by decide) dX9_takes_48 rfl ?_
    refine r_iconst F dX9_takes_50 rfl ?_
    refine r_iast F (ja_LM_1 hM) (by omega) (by omega) (by decide) dX9_takes_51 rfl ?_
    refine r_mem (mem' := ja_rw G (m + 1) (ja_rs v 22 0)) (ja_rw_up _ _ _ _ _) ?_
    refine r_aload_n F rfl rfl dX9_takes_52 rfl ?_
    refine r_getR F f_X9_7 (hM.1) rfl dX9_takes_53 rfl ?_
    refine r_bipush F (by decide) dX9_takes_56 rfl ?_
    refine r_iconst F dX9_takes_58 rfl ?_
    refine r_iast F (ja_LM_1 hM) (by omega) (by omega) (by decide) dX9_takes_59 rfl ?_
    refine r_mem (mem' := ja_rw G (m + 1) (ja_rs (ja_rs v 22 0) 23 0)) (ja_rw_up _ _ _ _ _) ?_
    refine r_mem (mem' := ja_rw G (m + 1) (N_t0 v)) rfl ?_
    have J137 : ∀ G1 : ja_M, N_ge m G G1 → ja_W C 0 0 lay (ja_rw G1 (m + 1) (N_tu v)) n 137 [some (.ref m), some (.int (ja_I (v 11))), some (.int (ja_I (N_kd v (v 11)))), none] [] := by
      intro G1 hG1
      have uC := hu1.C
      refine r_aload_n F rfl rfl dX9_takes_137 rfl ?_
      refine r_getR F f_X9_7 (hM.1) rfl dX9_takes_138 rfl ?_
      refine r_bipush F (by decide) dX9_takes_141 rfl ?_
      refine r_iload_n F rfl rfl dX9_takes_143 rfl ?_
      refine r_iadd F dX9_takes_144 rfl ?_
      refine r_dup2 F rfl rfl dX9_takes_145 rfl ?_
      refine r_iald F (ja_LM_1 hM) (by omega) (by omega) (by decide) dX9_takes_146 rfl ?_
      refine r_eqz (z := ((N_tu v) (Int.toNat (18 + (N_kd v (v 11)))))) (by rw [ja_rw_s]) ?_
      refine r_iconst F dX9_takes_147 rfl ?_
      refine r_iadd F dX9_takes_148 rfl ?_
      refine r_iast F (ja_LM_1 hM) (by omega) (by omega) (by decide) dX9_takes_149 rfl ?_
      refine r_mem (mem' := ja_rw G1 (m + 1) (ja_rs (N_tu v) (Int.toNat (18 + (N_kd v (v 11)))) (((N_tu v) (Int.toNat (18 + (N_kd v (v 11))))) + 1))) (ja_rw_up _ _ _ _ _) ?_
      refine r_mem (mem' := ja_rw G1 (m + 1) (N_td (N_tu v) (N_kd v (v 11)))) rfl ?_
      refine r_sipush F (by decide) dX9_takes_150 rfl ?_
      refine r_ist3 F (by decide) rfl dX9_takes_153 rfl ?_
      have loop : ∀ (d c : Nat), c + d = 31 → ja_W C 0 0 lay (ja_rw G1 (m + 1) (N_sk (N_td (N_tu v) (N_kd v (v 11))) c)) n 154 [some (.ref (m)), some (.int (ja_I (v 11))), some (.int (ja_I ((N_kd v (v 11))))), some (.int (ja_I ((2341 - (c : Int)))))] [] := by
        intro d
        induction d with
        | zero =>
          intro c hc
          refine r_iload_n F rfl rfl dX9_takes_154 rfl ?_
          refine r_sipush F (by decide) dX9_takes_155 rfl ?_
          refine r_icmp_le F (tgt := 181) ⟨by omega, by omega⟩ ⟨by omega, by omega⟩ dX9_takes_158 rfl (by decide) (fun h_158 => ?_) (fun h_158 => ?_)
          ·
            obtain rfl : c = 31 := by omega
            refine r_aload_n F rfl rfl dX9_takes_181 rfl ?_
            refine r_getR F f_X9_7 (hM.1) rfl dX9_takes_182 rfl ?_
            refine r_sipush F (by decide) dX9_takes_185 rfl ?_
            refine r_iload_n F rfl rfl dX9_takes_188 rfl ?_
            refine r_iast F (ja_LM_1 hM) (by omega) (by omega) (by decide) dX9_takes_189 rfl ?_
            refine r_mem (mem' := ja_rw G1 (m + 1) (ja_rs (N_sk (N_td (N_tu v) (N_kd v (v 11))) 31) 2310 (N_kd v (v 11)))) (ja_rw_up _ _ _ _ _) ?_
            refine r_aload_n F rfl rfl dX9_takes_190 rfl ?_
            refine r_getR F f_X9_7 (hM.1) rfl dX9_takes_191 rfl ?_
            refine r_bipush F (by decide) dX9_takes_194 rfl ?_
            refine r_dup2 F rfl rfl dX9_takes_196 rfl ?_
            refine r_iald F (ja_LM_1 hM) (by omega) (by omega) (by decide) dX9_takes_197 rfl ?_
            refine r_eqz (z := ((N_td (N_tu v) (N_kd v (v 11))) 11)) (by rw [ja_rw_s, show Int.toNat 11 = 11 from rfl, ja_rs_n (by omega)]; exact N_sk_n 31 (by omega) (by omega)) ?_
            refine r_iconst F dX9_takes_198 rfl ?_
            refine r_iadd F dX9_takes_199 rfl ?_
            refine r_iast F (ja_LM_1 hM) (by omega) (by omega) (by decide) dX9_takes_200 rfl ?_
            refine r_mem (mem' := ja_rw G1 (m + 1) (ja_rs (ja_rs (N_sk (N_td (N_tu v) (N_kd v (v 11))) 31) 2310 (N_kd v (v 11))) 11 (((N_td (N_tu v) (N_kd v (v 11))) 11) + 1))) (ja_rw_up _ _ _ _ _) ?_
            exact r_vret F Rt dX9_takes_201 (by decide) ⟨rfl, rfl, rfl, G1, hG1, rfl⟩
          ·
            exfalso; omega
        | succ d ih =>
          intro c hc
          refine r_iload_n F rfl rfl dX9_takes_154 rfl ?_
          refine r_sipush F (by decide) dX9_takes_155 rfl ?_
          refine r_icmp_le F (tgt := 181) ⟨by omega, by omega⟩ ⟨by omega, by omega⟩ dX9_takes_158 rfl (by decide) (fun h_158 => ?_) (fun h_158 => ?_)
          ·
            exfalso; omega
          ·
            refine r_aload_n F rfl rfl dX9_takes_161 rfl ?_
            refine r_getR F f_X9_7 (hM.1) rfl dX9_takes_162 rfl ?_
            refine r_iload_n F rfl rfl dX9_takes_165 rfl ?_
            refine r_aload_n F rfl rfl dX9_takes_166 rfl ?_
            refine r_getR F f_X9_7 (hM.1) rfl dX9_takes_167 rfl ?_
            refine r_iload_n F rfl rfl dX9_takes_170 rfl ?_
            refine r_iconst F dX9_takes_171 rfl ?_
            refine r_isub F dX9_takes_172 rfl ?_
            refine r_iald F (ja_LM_1 hM) (by omega) (by omega) (by decide) dX9_takes_173 rfl ?_
            refine r_eqz (z := ((N_sk (N_td (N_tu v) (N_kd v (v 11))) c) (Int.toNat ((2341 - (c : Int)) - 1)))) (by rw [ja_rw_s]) ?_
            refine r_iast F (ja_LM_1 hM) (by omega) (by omega) (by decide) dX9_takes_174 rfl ?_
            refine r_mem (mem' := ja_rw G1 (m + 1) (ja_rs (N_sk (N_td (N_tu v) (N_kd v (v 11))) c) (Int.toNat (2341 - (c : Int))) ((N_sk (N_td (N_tu v) (N_kd v (v 11))) c) (Int.toNat ((2341 - (c : Int)) - 1))))) (ja_rw_up _ _ _ _ _) ?_
            refine r_inc3 F (by decide) rfl dX9_takes_175 rfl ?_
            refine r_goto F (tgt := 154) dX9_takes_178 (by decide) ?_
            have e1 : N_sk (N_td (N_tu v) (N_kd v (v 11))) c (Int.toNat ((2341 - (c : Int)) - 1)) = (N_td (N_tu v) (N_kd v (v 11))) (2340 - c) := by rw [show Int.toNat ((2341 - (c : Int)) - 1) = 2340 - c by omega]; exact N_sk_n c (by omega) (by omega)
            rw [e1, show (2341 - (c : Int)) + (-1) = 2341 - ((c + 1 : Nat) : Int) by omega, show Int.toNat (2341 - (c : Int)) = 2341 - c by omega]
            exact ih (c + 1) (by omega)
      exact loop (31) 0 (by omega)
    refine r_iload_n F rfl rfl dX9_takes_60 rfl ?_
    refine r_iconst F dX9_takes_61 rfl ?_
    refine r_icmp_ne F (tgt := 124) ⟨by omega, by omega⟩ ⟨by omega, by omega⟩ dX9_takes_62 rfl (by decide) (fun h_62 => ?_) (fun h_62 => ?_)
    ·
      have h62 : ¬ N_kd v (v 11) = 3 := h_62
      refine r_aload_n F rfl rfl dX9_takes_124 rfl ?_
      refine r_getR F f_X9_7 (hM.1) rfl dX9_takes_125 rfl ?_
      refine r_bipush F (by decide) dX9_takes_128 rfl ?_
      refine r_iconst F dX9_takes_130 rfl ?_
      refine r_iast F (ja_LM_1 hM) (by omega) (by omega) (by decide) dX9_takes_131 rfl ?_
      refine r_mem (mem' := ja_rw G (m + 1) (ja_rs (N_t0 v) 13 0)) (ja_rw_up _ _ _ _ _) ?_
      refine r_aload_n F rfl rfl dX9_takes_132 rfl ?_
      refine r_iload_n F rfl rfl dX9_takes_133 rfl ?_
      refine r_callV F GC (c_X9_fits _ _ _ _ hM hRf ⟨by omega, by omega⟩ (by rw [ja_rs_n (by omega)]; exact e22)) v_X9_132 rfl (hM.1) rfl (by decide) (by decide) (Nat.le_of_ble_eq_true rfl) rfl dX9_takes_134 rfl (fun v lay' mem' n' hp => ?_)
      obtain ⟨q1, q2, q3, G1, hG1, q4⟩ := hp
      subst q1; subst q2; subst q3; subst q4
      refine r_mem (mem' := ja_rw G1 (m + 1) (N_tu v)) (by rw [N_tu, if_neg h62]) ?_
      exact J137 _ hG1
    ·
      have h62 : N_kd v (v 11) = 3 := h_62
      refine r_aload_n F rfl rfl dX9_takes_65 rfl ?_
      refine r_getR F f_X9_7 (hM.1) rfl dX9_takes_66 rfl ?_
      refine r_bipush F (by decide) dX9_takes_69 rfl ?_
      refine r_dup2 F rfl rfl dX9_takes_71 rfl ?_
      refine r_iald F (ja_LM_1 hM) (by omega) (by omega) (by decide) dX9_takes_72 rfl ?_
      refine r_eqz (z := ((N_t0 v) 13)) (by rw [ja_rw_s, show Int.toNat 13 = 13 from rfl]) ?_
      refine r_iconst F dX9_takes_73 rfl ?_
      refine r_iadd F dX9_takes_74 rfl ?_
      refine r_iast F (ja_LM_1 hM) (by omega) (by omega) (by decide) dX9_takes_75 rfl ?_
      refine r_mem (mem' := ja_rw G (m + 1) (ja_rs (N_t0 v) 13 (((N_t0 v) 13) + 1))) (ja_rw_up _ _ _ _ _) ?_
      refine r_aload_n F rfl rfl dX9_takes_76 rfl ?_
      refine r_getR F f_X9_7 (hM.1) rfl dX9_takes_77 rfl ?_
      refine r_bipush F (by decide) dX9_takes_80 rfl ?_
      have J116 : ja_W C 0 0 lay (ja_rw G (m + 1) (ja_rs (N_t0 v) 13 (((N_t0 v) 13) + 1))) n 116 [some (.ref (m)), some (.int (ja_I ((v 11)))), some (.int (ja_I ((N_kd v (v 11))))), none] [.int (ja_I (if N_t0 v 14 < N_t0 v 13 + 1 then N_t0 v 13 + 1 else N_t0 v 14)), .int (ja_I (14)), .ref ((m + 1))] := by
        refine r_iast F (ja_LM_1 hM) (by omega) (by omega) (by decide) dX9_takes_116 rfl ?_
        refine r_mem (mem' := ja_rw G (m + 1) (ja_rs (ja_rs (N_t0 v) 13 (((N_t0 v) 13) + 1)) 14 (if N_t0 v 14 < N_t0 v 13 + 1 then N_t0 v 13 + 1 else N_t0 v 14))) (ja_rw_up _ _ _ _ _) ?_
        refine r_mem (mem' := ja_rw G (m + 1) (N_tc (N_t0 v))) rfl ?_
        refine r_aload_n F rfl rfl dX9_takes_117 rfl ?_
        refine r_callV F GC (c_X9_conceals _ _ _ _ hM hRc (by unfold N_tc; rw [ja_rs_n (by omega), ja_rs_n (by omega)]; exact e22)) v_X9_129 rfl (hM.1) rfl (by decide) (by decide) (Nat.le_of_ble_eq_true rfl) rfl dX9_takes_118 rfl (fun v lay' mem' n' hp => ?_)
        obtain ⟨q1, q2, q3, q4⟩ := hp
        subst q1; subst q2; subst q3; subst q4
        refine r_goto F (tgt := 137) dX9_takes_121 (by decide) ?_
        refine r_mem (mem' := ja_rw G (m + 1) (N_tu v)) (by rw [N_tu, if_pos h62]) ?_
        exact J137 G N_ge.rf
      refine r_aload_n F rfl rfl dX9_takes_82 rfl ?_
      refine r_getR F f_X9_7 (hM.1) rfl dX9_takes_83 rfl ?_
      refine r_bipush F (by decide) dX9_takes_86 rfl ?_
      refine r_iald F (ja_LM_1 hM) (by omega) (by omega) (by decide) dX9_takes_88 rfl ?_
      refine r_eqz (z := (((N_t0 v) 13) + 1)) (by rw [ja_rw_s, show Int.toNat 13 = 13 from rfl, ja_rs_s]) ?_
      refine r_aload_n F rfl rfl dX9_takes_89 rfl ?_
      refine r_getR F f_X9_7 (hM.1) rfl dX9_takes_90 rfl ?_
      refine r_bipush F (by decide) dX9_takes_93 rfl ?_
      refine r_iald F (ja_LM_1 hM) (by omega) (by omega) (by decide) dX9_takes_95 rfl ?_
      refine r_eqz (z := ((N_t0 v) 14)) (by rw [ja_rw_s, show Int.toNat 14 = 14 from rfl, ja_rs_n (by omega)]) ?_
      refine r_icmp_le F (tgt := 109) ⟨by omega, by omega⟩ ⟨by omega, by omega⟩ dX9_takes_96 rfl (by decide) (fun h_96 => ?_) (fun h_96 => ?_)
      ·
        refine r_aload_n F rfl rfl dX9_takes_109 rfl ?_
        refine r_getR F f_X9_7 (hM.1) rfl dX9_takes_110 rfl ?_
        refine r_bipush F (by decide) dX9_takes_113 rfl ?_
        refine r_iald F (ja_LM_1 hM) (by omega) (by omega) (by decide) dX9_takes_115 rfl ?_
        refine r_eqz (z := ((N_t0 v) 14)) (by rw [ja_rw_s, show Int.toNat 14 = 14 from rfl, ja_rs_n (by omega)]) ?_
        refine r_eqz (z := if N_t0 v 14 < N_t0 v 13 + 1 then N_t0 v 13 + 1 else N_t0 v 14) (by first | rw [if_pos (by omega)] | rw [if_neg (by omega)]) ?_
        exact J116
      ·
        refine r_aload_n F rfl rfl dX9_takes_99 rfl ?_
        refine r_getR F f_X9_7 (hM.1) rfl dX9_takes_100 rfl ?_
        refine r_bipush F (by decide) dX9_takes_103 rfl ?_
        refine r_iald F (ja_LM_1 hM) (by omega) (by omega) (by decide) dX9_takes_105 rfl ?_
        refine r_eqz (z := (((N_t0 v) 13) + 1)) (by rw [ja_rw_s, show Int.toNat 13 = 13 from rfl, ja_rs_s]) ?_
        refine r_goto F (tgt := 116) dX9_takes_106 (by decide) ?_
        refine r_eqz (z := if N_t0 v 14 < N_t0 v 13 + 1 then N_t0 v 13 + 1 else N_t0 v 14) (by first | rw [if_pos (by omega)] | rw [if_neg (by omega)]) ?_
        exact J116
  refine r_aload_n F rfl rfl dX9_takes_8 rfl ?_
  refine r_getR F f_X9_7 (hM.1) rfl dX9_takes_9 rfl ?_
  refine r_bipush F (by decide) dX9_takes_12 rfl ?_
  refine r_iload_n F rfl rfl dX9_takes_14 rfl ?_
  refine r_iadd F dX9_takes_15 rfl ?_
  refine r_iald F (ja_LM_1 hM) (by omega) (by omega) (by decide) dX9_takes_16 rfl ?_
  refine r_eqz (z := (v (Int.toNat (30 + (v 11))))) (by rw [ja_rw_s]) ?_
  refine r_iconst F dX9_takes_17 rfl ?_
  refine r_icmp_ne F (tgt := 25) ⟨by omega, by omega⟩ ⟨by omega, by omega⟩ dX9_takes_18 rfl (by decide) (fun h_18 => ?_) (fun h_18 => ?_)
  ·
    refine r_aload_n F rfl rfl dX9_takes_25 rfl ?_
    refine r_getR F f_X9_7 (hM.1) rfl dX9_takes_26 rfl ?_
    refine r_bipush F (by decide) dX9_takes_29 rfl ?_
    refine r_iload_n F rfl rfl dX9_takes_31 rfl ?_
    refine r_iadd F dX9_takes_32 rfl ?_
    refine r_iald F (ja_LM_1 hM) (by omega) (by omega) (by decide) dX9_takes_33 rfl ?_
    refine r_eqz (z := (v (Int.toNat (30 + (v 11))))) (by rw [ja_rw_s]) ?_
    refine r_iconst F dX9_takes_34 rfl ?_
    refine r_icmp_ne F (tgt := 42) ⟨by omega, by omega⟩ ⟨by omega, by omega⟩ dX9_takes_35 rfl (by decide) (fun h_35 => ?_) (fun h_35 => ?_)
    ·
      refine r_iconst F dX9_takes_42 rfl ?_
      refine r_eqz (z := N_kd v (v 11)) (by unfold N_kd; first | rw [if_pos h_18] | rw [if_neg h_18, if_pos h_35] | rw [if_neg h_18, if_neg h_35]) ?_
      exact J43
    ·
      refine r_iconst F dX9_takes_38 rfl ?_
      refine r_goto F (tgt := 43) dX9_takes_39 (by decide) ?_
      refine r_eqz (z := N_kd v (v 11)) (by unfold N_kd; first | rw [if_pos h_18] | rw [if_neg h_18, if_pos h_35] | rw [if_neg h_18, if_neg h_35]) ?_
      exact J43
  ·
    refine r_iconst F dX9_takes_21 rfl ?_
    refine r_goto F (tgt := 43) dX9_takes_22 (by decide) ?_
    refine r_eqz (z := N_kd v (v 11)) (by unfold N_kd; first | rw [if_pos h_18] | rw [if_neg h_18, if_pos h_35] | rw [if_neg h_18, if_neg h_35]) ?_
    exact J43
end
section
abbrev rm_X9_tick : Room := { frames := 7, cells := 0, slots := 0, locals := 168 }
set_option maxRecDepth 100000 in
set_option maxHeartbeats 800000 in
theorem c_X9_tick (l : Launch) (D : va_G) (cA : Nat → ClassId) (B : Nat) {lay : ja_Y} {n : Nat} {m : Nat} {G : ja_M} {v : Nat → Int} (hM : ja_LM lay m) {t : Int} (hO : N_O v t) (ht : t ≤ 900000)  : ja_Mt l D cA B yX9_tick cX9_tick 2 (some .int) rm_X9_tick [.ref m] lay (ja_rw G (m + 1) v) n (N_pg lay m n G (N_ti v) (some (.int (ja_I (N_to v))))) := by
  refine ja_enter [some (.ref m), none] (by decide) (Nat.le_of_ble_eq_true rfl) (fun q hq => hq) (fun C F Rt GC hnm => ?_)
  have hR := hO.1
  have hS := hR.S
  have hC := hR.C
  obtain ⟨o1, o2, o3, o4, o5, o6, o7⟩ := id hO.2.1
  have h1 := N_t1_O hO ht
  have h1C := h1.1.C
  obtain ⟨h2, -⟩ := N_t2_O h1
  have h2C := h2.1.C
  have h2g := h2.1.G (j := (2342 + N_t2 (N_t1 v) 23).toNat)
  refine r_aload_n F rfl rfl dX9_tick_0 rfl ?_
  refine r_callV F GC (c_X9_arrivesBySchedule _ _ _ _ hM hO (by omega)) v_X9_135 rfl (hM.1) rfl (by decide) (by decide) (Nat.le_of_ble_eq_true rfl) rfl dX9_tick_1 rfl (fun v lay' mem' n' hp => ?_)
  obtain ⟨q1, q2, q3, q4⟩ := hp
  subst q1; subst q2; subst q3; subst q4
  refine r_aload_n F rfl rfl dX9_tick_4 rfl ?_
  refine r_getR F f_X9_7 (hM.1) rfl dX9_tick_5 rfl ?_
  refine r_bipush F (by decide) dX9_tick_8 rfl ?_
  refine r_iconst F dX9_tick_10 rfl ?_
  refine r_iast F (ja_LM_1 hM) (by omega) (by omega) (by decide) dX9_tick_11 rfl ?_
  refine r_mem (mem' := ja_rw G (m + 1) (ja_rs (N_as v) 27 0)) (ja_rw_up _ _ _ _ _) ?_
  refine r_mem (mem' := ja_rw G (m + 1) (N_t1 v)) rfl ?_
  refine r_iconst F dX9_tick_12 rfl ?_
  refine r_ist1 F (by decide) rfl dX9_tick_13 rfl ?_
  have J167 : ∀ (G1 : ja_M) (z : Int), N_ge m G G1 → z = N_to v → ja_W C 0 0 lay (ja_rw G1 (m + 1) (N_pl (N_t1 v))) n 167 [some (.ref m), some (.int (ja_I z))] [] := by
    intro G1 z hG1 hz
    subst hz
    refine r_aload_n F rfl rfl dX9_tick_167 rfl ?_
    refine r_getR F f_X9_7 (hM.1) rfl dX9_tick_168 rfl ?_
    refine r_bipush F (by decide) dX9_tick_171 rfl ?_
    refine r_dup2 F rfl rfl dX9_tick_173 rfl ?_
    refine r_iald F (ja_LM_1 hM) (by omega) (by omega) (by decide) dX9_tick_174 rfl ?_
    refine r_eqz (z := ((N_pl (N_t1 v)) 9)) (by rw [ja_rw_s, show Int.toNat 9 = 9 from rfl]) ?_
    refine r_iconst F dX9_tick_175 rfl ?_
    refine r_iadd F dX9_tick_176 rfl ?_
    refine r_iast F (ja_LM_1 hM) (by omega) (by omega) (by decide) dX9_tick_177 rfl ?_
    refine r_mem (mem' := ja_rw G1 (m + 1) (ja_rs (N_pl (N_t1 v)) 9 (((N_pl (N_t1 v)) 9) + 1))) (ja_rw_up _ _ _ _ _) ?_
    refine r_iload_n F rfl rfl dX9_tick_178 rfl ?_
    exact r_iret F Rt dX9_tick_179 (by decide) ⟨rfl, rfl, rfl, G1, hG1, rfl⟩
  refine r_aload_n F rfl rfl dX9_tick_14 rfl ?_
  refine r_getR F f_X9_7 (hM.1) rfl dX9_tick_15 rfl ?_
  refine r_bipush F (by decide) dX9_tick_18 rfl ?_
  refine r_iald F (ja_LM_1 hM) (by omega) (by omega) (by decide) dX9_tick_20 rfl ?_
  refine r_eqz (z := ((N_t1 v) 10)) (by rw [ja_rw_s, show Int.toNat 10 = 10 from rfl]) ?_
  refine r_if_lt F (tgt := 167) ⟨by omega, by omega⟩ dX9_tick_21 rfl (by decide) (fun h_21 => ?_) (fun h_21 => ?_)
  ·
    have hon : ¬ N_on (N_t1 v) := fun q => by have q1 := q.1; have q2 := q.2; omega
    refine r_mem (mem' := ja_rw G (m + 1) (N_pl (N_t1 v))) (by rw [N_pl, if_neg hon]) ?_
    exact J167 G 0 N_ge.rf (by rw [N_to, if_neg (fun q => hon q.1)])
  ·
    refine r_aload_n F rfl rfl dX9_tick_24 rfl ?_
    refine r_getR F f_X9_7 (hM.1) rfl dX9_tick_25 rfl ?_
    refine r_bipush F (by decide) dX9_tick_28 rfl ?_
    refine r_iald F (ja_LM_1 hM) (by omega) (by omega) (by decide) dX9_tick_30 rfl ?_
    refine r_eqz (z := ((N_t1 v) 9)) (by rw [ja_rw_s, show Int.toNat 9 = 9 from rfl]) ?_
    refine r_aload_n F rfl rfl dX9_tick_31 rfl ?_
    refine r_getR F f_X9_7 (hM.1) rfl dX9_tick_32 rfl ?_
    refine r_bipush F (by decide) dX9_tick_35 rfl ?_
    refine r_iald F (ja_LM_1 hM) (by omega) (by omega) (by decide) dX9_tick_37 rfl ?_
    refine r_eqz (z := ((N_t1 v) 10)) (by rw [ja_rw_s, show Int.toNat 10 = 10 from rfl]) ?_
    refine r_icmp_lt F (tgt := 167) ⟨by omega, by omega⟩ ⟨by omega, by omega⟩ dX9_tick_38 rfl (by decide) (fun h_38 => ?_) (fun h_38 => ?_)
    ·
      have hon : ¬ N_on (N_t1 v) := fun q => by have q1 := q.1; have q2 := q.2; omega
      refine r_mem (mem' := ja_rw G (m + 1) (N_pl (N_t1 v))) (by rw [N_pl, if_neg hon]) ?_
      exact J167 G 0 N_ge.rf (by rw [N_to, if_neg (fun q => hon q.1)])
    ·
      have hon : N_on (N_t1 v) := ⟨by omega, by omega⟩
      have J90 : ∀ (G1 : ja_M), N_ge m G G1 → ja_W C 0 0 lay (ja_rw G1 (m + 1) (N_t2 (N_t1 v))) n 90 [some (.ref m), some (.int (ja_I 0))] [] := by
        intro G1 hG1
        refine r_aload_n F rfl rfl dX9_tick_90 rfl ?_
        refine r_getR F f_X9_7 (hM.1) rfl dX9_tick_91 rfl ?_
        refine r_bipush F (by decide) dX9_tick_94 rfl ?_
        refine r_iald F (ja_LM_1 hM) (by omega) (by omega) (by decide) dX9_tick_96 rfl ?_
        refine r_eqz (z := ((N_t2 (N_t1 v)) 23)) (by rw [ja_rw_s, show Int.toNat 23 = 23 from rfl]) ?_
        refine r_aload_n F rfl rfl dX9_tick_97 rfl ?_
        refine r_getR F f_X9_7 (hM.1) rfl dX9_tick_98 rfl ?_
        refine r_bipush F (by decide) dX9_tick_101 rfl ?_
        refine r_iald F (ja_LM_1 hM) (by omega) (by omega) (by decide) dX9_tick_103 rfl ?_
        refine r_eqz (z := ((N_t2 (N_t1 v)) 22)) (by rw [ja_rw_s, show Int.toNat 22 = 22 from rfl]) ?_
        refine r_icmp_ge F (tgt := 167) ⟨by omega, by omega⟩ ⟨by omega, by omega⟩ dX9_tick_104 rfl (by decide) (fun h_104 => ?_) (fun h_104 => ?_)
        ·
          have h104 : ¬ N_t2 (N_t1 v) 23 < N_t2 (N_t1 v) 22 := by omega
          have e104 : N_to v = 0 := by rw [N_to, if_neg (fun q => h104 q.2)]
          refine r_mem (mem' := ja_rw G1 (m + 1) (N_pl (N_t1 v))) (by rw [N_pl, if_pos hon, N_t3]; first | rw [if_pos h104] | rw [if_neg h104]) ?_
          exact J167 G1 _ hG1 e104.symm
        ·
          have h104 : N_t2 (N_t1 v) 23 < N_t2 (N_t1 v) 22 := by omega
          have e104 : N_to v = 1 := by rw [N_to, if_pos ⟨hon, h104⟩]
          refine r_aload_n F rfl rfl dX9_tick_107 rfl ?_
          refine r_getR F f_X9_7 (hM.1) rfl dX9_tick_108 rfl ?_
          refine r_sipush F (by decide) dX9_tick_111 rfl ?_
          refine r_aload_n F rfl rfl dX9_tick_114 rfl ?_
          refine r_getR F f_X9_7 (hM.1) rfl dX9_tick_115 rfl ?_
          refine r_bipush F (by decide) dX9_tick_118 rfl ?_
          refine r_iald F (ja_LM_1 hM) (by omega) (by omega) (by decide) dX9_tick_120 rfl ?_
          refine r_eqz (z := ((N_t2 (N_t1 v)) 12)) (by rw [ja_rw_s, show Int.toNat 12 = 12 from rfl]) ?_
          refine r_sipush F (by decide) dX9_tick_121 rfl ?_
          refine r_iremP F ⟨by omega, by omega⟩ ⟨by omega, by omega⟩ (by omega) (by omega) dX9_tick_124 rfl ?_
          refine r_iadd F dX9_tick_125 rfl ?_
          refine r_aload_n F rfl rfl dX9_tick_126 rfl ?_
          refine r_getR F f_X9_7 (hM.1) rfl dX9_tick_127 rfl ?_
          refine r_sipush F (by decide) dX9_tick_130 rfl ?_
          refine r_aload_n F rfl rfl dX9_tick_133 rfl ?_
          refine r_getR F f_X9_7 (hM.1) rfl dX9_tick_134 rfl ?_
          refine r_bipush F (by decide) dX9_tick_137 rfl ?_
          refine r_iald F (ja_LM_1 hM) (by omega) (by omega) (by decide) dX9_tick_139 rfl ?_
          refine r_eqz (z := ((N_t2 (N_t1 v)) 23)) (by rw [ja_rw_s, show Int.toNat 23 = 23 from rfl]) ?_
          refine r_iadd F dX9_tick_140 rfl ?_
          refine r_iald F (ja_LM_1 hM) (by omega) (by omega) (by decide) dX9_tick_141 rfl ?_
          refine r_eqz (z := ((N_t2 (N_t1 v)) (Int.toNat (2342 + ((N_t2 (N_t1 v)) 23))))) (by rw [ja_rw_s]) ?_
          refine r_iast F (ja_LM_1 hM) (by omega) (by omega) (by decide) dX9_tick_142 rfl ?_
          refine r_mem (mem' := ja_rw G1 (m + 1) (ja_rs (N_t2 (N_t1 v)) (Int.toNat (2054 + (((N_t2 (N_t1 v)) 12) % 256))) ((N_t2 (N_t1 v)) (Int.toNat (2342 + ((N_t2 (N_t1 v)) 23)))))) (ja_rw_up _ _ _ _ _) ?_
          refine r_aload_n F rfl rfl dX9_tick_143 rfl ?_
          refine r_getR F f_X9_7 (hM.1) rfl dX9_tick_144 rfl ?_
          refine r_bipush F (by decide) dX9_tick_147 rfl ?_
          refine r_dup2 F rfl rfl dX9_tick_149 rfl ?_
          refine r_iald F (ja_LM_1 hM) (by omega) (by omega) (by decide) dX9_tick_150 rfl ?_
          refine r_eqz (z := ((N_t2 (N_t1 v)) 12)) (by rw [ja_rw_s, show Int.toNat 12 = 12 from rfl, ja_rs_n (by omega)]) ?_
          refine r_iconst F dX9_tick_151 rfl ?_
          refine r_iadd F dX9_tick_152 rfl ?_
          refine r_iast F (ja_LM_1 hM) (by omega) (by omega) (by decide) dX9_tick_153 rfl ?_
          refine r_mem (mem' := ja_rw G1 (m + 1) (ja_rs (ja_rs (N_t2 (N_t1 v)) (Int.toNat (2054 + (((N_t2 (N_t1 v)) 12) % 256))) ((N_t2 (N_t1 v)) (Int.toNat (2342 + ((N_t2 (N_t1 v)) 23))))) 12 (((N_t2 (N_t1 v)) 12) + 1))) (ja_rw_up _ _ _ _ _) ?_
          refine r_aload_n F rfl rfl dX9_tick_154 rfl ?_
          refine r_getR F f_X9_7 (hM.1) rfl dX9_tick_155 rfl ?_
          refine r_bipush F (by decide) dX9_tick_158 rfl ?_
          refine r_dup2 F rfl rfl dX9_tick_160 rfl ?_
          refine r_iald F (ja_LM_1 hM) (by omega) (by omega) (by decide) dX9_tick_161 rfl ?_
          refine r_eqz (z := ((N_t2 (N_t1 v)) 23)) (by rw [ja_rw_s, show Int.toNat 23 = 23 from rfl, ja_rs_n (by omega), ja_rs_n (by omega)]) ?_
          refine r_iconst F dX9_tick_162 rfl ?_
          refine r_iadd F dX9_tick_163 rfl ?_
          refine r_iast F (ja_LM_1 hM) (by omega) (by omega) (by decide) dX9_tick_164 rfl ?_
          refine r_mem (mem' := ja_rw G1 (m + 1) (ja_rs (ja_rs (ja_rs (N_t2 (N_t1 v)) (Int.toNat (2054 + (((N_t2 (N_t1 v)) 12) % 256))) ((N_t2 (N_t1 v)) (Int.toNat (2342 + ((N_t2 (N_t1 v)) 23))))) 12 (((N_t2 (N_t1 v)) 12) + 1)) 23 (((N_t2 (N_t1 v)) 23) + 1))) (ja_rw_up _ _ _ _ _) ?_
          refine r_iconst F dX9_tick_165 rfl ?_
          refine r_ist1 F (by decide) rfl dX9_tick_166 rfl ?_
          refine r_mem (mem' := ja_rw G1 (m + 1) (N_pl (N_t1 v))) (by rw [N_pl, if_pos hon, N_t3]; first | rw [if_pos h104] | rw [if_neg h104]) ?_
          exact J167 G1 _ hG1 e104.symm
      refine r_aload_n F rfl rfl dX9_tick_41 rfl ?_
      refine r_getR F f_X9_7 (hM.1) rfl dX9_tick_42 rfl ?_
      refine r_bipush F (by decide) dX9_tick_45 rfl ?_
      refine r_iald F (ja_LM_1 hM) (by omega) (by omega) (by decide) dX9_tick_47 rfl ?_
      refine r_eqz (z := ((N_t1 v) 23)) (by rw [ja_rw_s, show Int.toNat 23 = 23 from rfl]) ?_
      refine r_aload_n F rfl rfl dX9_tick_48 rfl ?_
      refine r_getR F f_X9_7 (hM.1) rfl dX9_tick_49 rfl ?_
      refine r_bipush F (by decide) dX9_tick_52 rfl ?_
      refine r_iald F (ja_LM_1 hM) (by omega) (by omega) (by decide) dX9_tick_54 rfl ?_
      refine r_eqz (z := ((N_t1 v) 22)) (by rw [ja_rw_s, show Int.toNat 22 = 22 from rfl]) ?_
      refine r_icmp_ne F (tgt := 90) ⟨by omega, by omega⟩ ⟨by omega, by omega⟩ dX9_tick_55 rfl (by decide) (fun h_55 => ?_) (fun h_55 => ?_)
      ·
        refine r_mem (mem' := ja_rw G (m + 1) (N_t2 (N_t1 v))) (by rw [N_t2, if_neg (by omega)]) ?_
        exact J90 G N_ge.rf
      ·
        refine r_aload_n F rfl rfl dX9_tick_58 rfl ?_
        refine r_getR F f_X9_7 (hM.1) rfl dX9_tick_59 rfl ?_
        refine r_bipush F (by decide) dX9_tick_62 rfl ?_
        refine r_iald F (ja_LM_1 hM) (by omega) (by omega) (by decide) dX9_tick_64 rfl ?_
        refine r_eqz (z := ((N_t1 v) 11)) (by rw [ja_rw_s, show Int.toNat 11 = 11 from rfl]) ?_
        refine r_sipush F (by decide) dX9_tick_65 rfl ?_
        refine r_icmp_gt F (tgt := 90) ⟨by omega, by omega⟩ ⟨by omega, by omega⟩ dX9_tick_68 rfl (by decide) (fun h_68 => ?_) (fun h_68 => ?_)
        ·
          refine r_mem (mem' := ja_rw G (m + 1) (N_t2 (N_t1 v))) (by rw [N_t2, if_neg (by omega)]) ?_
          exact J90 G N_ge.rf
        ·
          refine r_aload_n F rfl rfl dX9_tick_71 rfl ?_
          refine r_callV F GC (c_X9_takes _ _ _ _ hM h1 (by omega)) v_X9_138 rfl (hM.1) rfl (by decide) (by decide) (Nat.le_of_ble_eq_true rfl) rfl dX9_tick_72 rfl (fun v lay' mem' n' hp => ?_)
          obtain ⟨q1, q2, q3, G1, hG1, q4⟩ := hp
          subst q1; subst q2; subst q3; subst q4
          refine r_aload_n F rfl rfl dX9_tick_75 rfl ?_
          refine r_getR F f_X9_7 (hM.1) rfl dX9_tick_76 rfl ?_
          refine r_bipush F (by decide) dX9_tick_79 rfl ?_
          refine r_aload_n F rfl rfl dX9_tick_81 rfl ?_
          refine r_getR F f_X9_7 (hM.1) rfl dX9_tick_82 rfl ?_
          refine r_sipush F (by decide) dX9_tick_85 rfl ?_
          refine r_iald F (ja_LM_1 hM) (by omega) (by omega) (by decide) dX9_tick_88 rfl ?_
          refine r_eqz (z := ((N_tk (N_t1 v)) 2310)) (by rw [ja_rw_s, show Int.toNat 2310 = 2310 from rfl]) ?_
          refine r_iast F (ja_LM_1 hM) (by omega) (by omega) (by decide) dX9_tick_89 rfl ?_
          refine r_mem (mem' := ja_rw G1 (m + 1) (ja_rs (N_tk (N_t1 v)) 27 ((N_tk (N_t1 v)) 2310))) (ja_rw_up _ _ _ _ _) ?_
          refine r_mem (mem' := ja_rw G1 (m + 1) (N_t2 (N_t1 v))) (by rw [N_t2, if_pos ⟨by omega, by omega⟩]) ?_
          exact J90 _ hG1
end
