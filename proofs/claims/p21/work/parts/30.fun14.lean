-- the reference at m: state m + 1, spare m + 2, kept m + 3, isKept m + 4, text m + 5, sorted m + 6, x m + 7, told m + 8
def ja_LM (lay : ja_Y) (m : Nat) : Prop := lay m = some (.inl (9, [some (.ref (m + 1)), some (.ref (m + 2)), some (.ref (m + 3)), some (.ref (m + 4)), some (.ref (m + 5)), none, some (.ref (m + 6)), some (.ref (m + 7)), some (.ref (m + 8)), none, none])) ∧ lay (m + 1) = some (.inr (0, 2484, fun _ => none)) ∧ lay (m + 2) = some (.inr (0, 2484, fun _ => none)) ∧ lay (m + 3) = some (.inr (0, 4968, fun _ => none)) ∧ lay (m + 4) = some (.inr (2, 2, fun _ => none)) ∧ lay (m + 5) = some (.inr (0, 120, fun _ => none)) ∧ lay (m + 6) = some (.inr (0, 16, fun _ => none)) ∧ lay (m + 7) = some (.inr (0, 16, fun _ => none)) ∧ lay (m + 8) = some (.inr (0, 160, fun _ => none))
theorem ja_LM_1 {lay : ja_Y} {m : Nat} (h : ja_LM lay m) : lay (m + 1) = some (.inr (0, 2484, fun _ => none)) := h.2.1
theorem ja_LM_2 {lay : ja_Y} {m : Nat} (h : ja_LM lay m) : lay (m + 2) = some (.inr (0, 2484, fun _ => none)) := h.2.2.1
theorem ja_LM_3 {lay : ja_Y} {m : Nat} (h : ja_LM lay m) : lay (m + 3) = some (.inr (0, 4968, fun _ => none)) := h.2.2.2.1
theorem ja_LM_4 {lay : ja_Y} {m : Nat} (h : ja_LM lay m) : lay (m + 4) = some (.inr (2, 2, fun _ => none)) := h.2.2.2.2.1
theorem ja_LM_5 {lay : ja_Y} {m : Nat} (h : ja_LM lay m) : lay (m + 5) = some (.inr (0, 120, fun _ => none)) := h.2.2.2.2.2.1
theorem ja_LM_6 {lay : ja_Y} {m : Nat} (h : ja_LM lay m) : lay (m + 6) = some (.inr (0, 16, fun _ => none)) := h.2.2.2.2.2.2.1
theorem ja_LM_7 {lay : ja_Y} {m : Nat} (h : ja_LM lay m) : lay (m + 7) = some (.inr (0, 16, fun _ => none)) := h.2.2.2.2.2.2.2.1
theorem ja_LM_8 {lay : ja_Y} {m : Nat} (h : ja_LM lay m) : lay (m + 8) = some (.inr (0, 160, fun _ => none)) := h.2.2.2.2.2.2.2.2
theorem ja_up_rw {mem : ja_M} {a b j : Nat} {f : Nat → Int} {z : Int} (h : a ≠ b) : ja_up (ja_rw mem b f) a j z = ja_rw (ja_up mem a j z) b f := by
  funext q x
  unfold ja_up ja_rw
  by_cases hq : q = b
  · subst hq
    simp [Ne.symm h]
  · simp [hq]
theorem ja_rw_cm {mem : ja_M} {a b : Nat} {f g : Nat → Int} (h : a ≠ b) : ja_rw (ja_rw mem b f) a g = ja_rw (ja_rw mem a g) b f := by
  funext q
  unfold ja_rw
  by_cases hq : q = b
  · subst hq
    simp [Ne.symm h]
  · simp [hq]
theorem ja_rs_s (f : Nat → Int) (j : Nat) (z : Int) : ja_rs f j z j = z := by simp [ja_rs]
theorem ja_rs_n {f : Nat → Int} {j q : Nat} {z : Int} (h : q ≠ j) : ja_rs f j z q = f q := by simp [ja_rs, h]
theorem ja_b_1 {p : Prop} [Decidable p] (h : ¬ ja_b p = 0) : p := Decidable.byContradiction fun q => h (ja_b_0.mpr q)
theorem ja_b_o {p : Prop} [Decidable p] : ja_b p = 0 ∨ ja_b p = 1 := by
  have := @ja_b_r p _
  omega
theorem ja_b_in {p : Prop} [Decidable p] : ja_in (ja_b p) := by
  have := @ja_b_r p _
  exact ⟨by omega, by omega⟩
/-- rows that may have changed: sorted, x -/
def N_ge (m : Nat) (G G' : ja_M) : Prop := ∀ q, q ≠ m + 6 → q ≠ m + 7 → G' q = G q
theorem N_ge.rf {m : Nat} {G : ja_M} : N_ge m G G := fun _ _ _ => rfl
theorem N_ge.tr {m : Nat} {G G' G'' : ja_M} (h : N_ge m G G') (h2 : N_ge m G' G'') : N_ge m G G'' := fun q a b => (h2 q a b).trans (h q a b)
def N_pg (lay : ja_Y) (m n : Nat) (G : ja_M) (f : Nat → Int) (r : Option Value) : ja_P := fun v lay' mem' n' => r = v ∧ lay = lay' ∧ n = n' ∧ ∃ G', N_ge m G G' ∧ mem' = ja_rw G' (m + 1) f
-- ranges
def N_in (j : Nat) (z : Int) : Prop :=
  if j < 30 then (match j with
    | 0 => 4 ≤ z ∧ z ≤ 16
    | 1 => 2 ≤ z ∧ z ≤ 32
    | 2 => 1 ≤ z ∧ z ≤ 200
    | 3 => 2 ≤ z ∧ z ≤ 6
    | 4 => 2 ≤ z ∧ z ≤ 6
    | 5 => 0 ≤ z ∧ z ≤ 200
    | 6 => 1 ≤ z ∧ z ≤ 100
    | 7 => 0 ≤ z ∧ z ≤ 100
    | 8 => 0 ≤ z ∧ z ≤ 1
    | 9 => 0 ≤ z ∧ z ≤ 900002
    | 10 => -1 ≤ z ∧ z ≤ 900300
    | 11 => 0 ≤ z ∧ z ≤ 1000
    | 12 => 0 ≤ z ∧ z ≤ 900002
    | 13 => 0 ≤ z ∧ z ≤ 1000
    | 14 => 0 ≤ z ∧ z ≤ 1000
    | 21 => 0 ≤ z ∧ z ≤ 1000
    | 22 => 0 ≤ z ∧ z ≤ 24
    | 23 => 0 ≤ z ∧ z ≤ 24
    | 24 => 0 ≤ z ∧ z ≤ 16
    | 25 => 0 ≤ z ∧ z ≤ 24
    | 27 => 0 ≤ z ∧ z ≤ 3
    | _ => True)
  else if j < 1030 then 0 ≤ z ∧ z ≤ 2
  else if j < 2054 then 0 ≤ z ∧ z ≤ 1
  else if j < 2310 then -100 ≤ z ∧ z ≤ 100
  else if j < 2342 then 0 ≤ z ∧ z ≤ 3
  else if j < 2372 then -100 ≤ z ∧ z ≤ 100
  else if j < 2388 then -1000000 ≤ z ∧ z ≤ 1000000
  else 0 ≤ z ∧ z ≤ 9999
def N_R (v : Nat → Int) : Prop := ∀ j, j < 2484 → N_in j (v j)
theorem N_inF {j : Nat} {z : Int} (h0 : 30 ≤ j) (h1 : j < 1030) : N_in j z ↔ (0 ≤ z ∧ z ≤ 2) := by
  unfold N_in
  rw [if_neg (by omega), if_pos h1]
theorem N_inK {j : Nat} {z : Int} (h0 : 1030 ≤ j) (h1 : j < 2054) : N_in j z ↔ (0 ≤ z ∧ z ≤ 1) := by
  unfold N_in
  rw [if_neg (by omega), if_neg (by omega), if_pos h1]
theorem N_inH {j : Nat} {z : Int} (h0 : 2054 ≤ j) (h1 : j < 2310) : N_in j z ↔ (-100 ≤ z ∧ z ≤ 100) := by
  unfold N_in
  rw [if_neg (by omega), if_neg (by omega), if_neg (by omega), if_pos h1]
theorem N_inD {j : Nat} {z : Int} (h0 : 2310 ≤ j) (h1 : j < 2342) : N_in j z ↔ (0 ≤ z ∧ z ≤ 3) := by
  unfold N_in
  rw [if_neg (by omega), if_neg (by omega), if_neg (by omega), if_neg (by omega), if_pos h1]
theorem N_inG {j : Nat} {z : Int} (h0 : 2342 ≤ j) (h1 : j < 2372) : N_in j z ↔ (-100 ≤ z ∧ z ≤ 100) := by
  unfold N_in
  rw [if_neg (by omega), if_neg (by omega), if_neg (by omega), if_neg (by omega), if_neg (by omega), if_pos h1]
theorem N_inW {j : Nat} {z : Int} (h0 : 2372 ≤ j) (h1 : j < 2388) : N_in j z ↔ (-1000000 ≤ z ∧ z ≤ 1000000) := by
  unfold N_in
  rw [if_neg (by omega), if_neg (by omega), if_neg (by omega), if_neg (by omega), if_neg (by omega), if_neg (by omega), if_pos h1]
theorem N_inP {j : Nat} {z : Int} (h0 : 2388 ≤ j) : N_in j z ↔ (0 ≤ z ∧ z ≤ 9999) := by
  unfold N_in
  rw [if_neg (by omega), if_neg (by omega), if_neg (by omega), if_neg (by omega), if_neg (by omega), if_neg (by omega), if_neg (by omega)]
theorem N_R.rs {v : Nat → Int} {i : Nat} {z : Int} (h : N_R v) (hz : N_in i z) : N_R (ja_rs v i z) := by
  intro j hj
  by_cases hq : j = i
  · subst hq
    rw [ja_rs_s]
    exact hz
  · rw [ja_rs_n hq]
    exact h j hj
abbrev N_S (v : Nat → Int) : Prop := (4 ≤ v 0 ∧ v 0 ≤ 16) ∧ (2 ≤ v 1 ∧ v 1 ≤ 32) ∧ (1 ≤ v 2 ∧ v 2 ≤ 200) ∧ (2 ≤ v 3 ∧ v 3 ≤ 6) ∧ (2 ≤ v 4 ∧ v 4 ≤ 6) ∧ (0 ≤ v 5 ∧ v 5 ≤ 200) ∧ (1 ≤ v 6 ∧ v 6 ≤ 100) ∧ (0 ≤ v 7 ∧ v 7 ≤ 100) ∧ (0 ≤ v 8 ∧ v 8 ≤ 1)
theorem N_R.S {v : Nat → Int} (h : N_R v) : N_S v := ⟨h 0 (by omega), h 1 (by omega), h 2 (by omega), h 3 (by omega), h 4 (by omega), h 5 (by omega), h 6 (by omega), h 7 (by omega), h 8 (by omega)⟩
theorem N_R.C {v : Nat → Int} (h : N_R v) : (0 ≤ v 9 ∧ v 9 ≤ 900002) ∧ (-1 ≤ v 10 ∧ v 10 ≤ 900300) ∧ (0 ≤ v 11 ∧ v 11 ≤ 1000) ∧ (0 ≤ v 12 ∧ v 12 ≤ 900002) ∧ (0 ≤ v 13 ∧ v 13 ≤ 1000) ∧ (0 ≤ v 14 ∧ v 14 ≤ 1000) ∧ (0 ≤ v 21 ∧ v 21 ≤ 1000) ∧ (0 ≤ v 22 ∧ v 22 ≤ 24) ∧ (0 ≤ v 23 ∧ v 23 ≤ 24) ∧ (0 ≤ v 24 ∧ v 24 ≤ 16) ∧ (0 ≤ v 25 ∧ v 25 ≤ 24) ∧ (0 ≤ v 27 ∧ v 27 ≤ 3) := ⟨h 9 (by omega), h 10 (by omega), h 11 (by omega), h 12 (by omega), h 13 (by omega), h 14 (by omega), h 21 (by omega), h 22 (by omega), h 23 (by omega), h 24 (by omega), h 25 (by omega), h 27 (by omega)⟩
theorem N_R.F {v : Nat → Int} {j : Nat} (h : N_R v) (h0 : 30 ≤ j) (h1 : j < 1030) : 0 ≤ v j ∧ v j ≤ 2 := (N_inF h0 h1).mp (h j (by omega))
theorem N_R.K {v : Nat → Int} {j : Nat} (h : N_R v) (h0 : 1030 ≤ j) (h1 : j < 2054) : 0 ≤ v j ∧ v j ≤ 1 := (N_inK h0 h1).mp (h j (by omega))
theorem N_R.H {v : Nat → Int} {j : Nat} (h : N_R v) (h0 : 2054 ≤ j) (h1 : j < 2310) : -100 ≤ v j ∧ v j ≤ 100 := (N_inH h0 h1).mp (h j (by omega))
theorem N_R.D {v : Nat → Int} {j : Nat} (h : N_R v) (h0 : 2310 ≤ j) (h1 : j < 2342) : 0 ≤ v j ∧ v j ≤ 3 := (N_inD h0 h1).mp (h j (by omega))
theorem N_R.G {v : Nat → Int} {j : Nat} (h : N_R v) (h0 : 2342 ≤ j) (h1 : j < 2372) : -100 ≤ v j ∧ v j ≤ 100 := (N_inG h0 h1).mp (h j (by omega))
theorem N_R.W {v : Nat → Int} {j : Nat} (h : N_R v) (h0 : 2372 ≤ j) (h1 : j < 2388) : -1000000 ≤ v j ∧ v j ≤ 1000000 := (N_inW h0 h1).mp (h j (by omega))
theorem N_R.P {v : Nat → Int} {j : Nat} (h : N_R v) (h0 : 2388 ≤ j) (h1 : j < 2484) : 0 ≤ v j ∧ v j ≤ 9999 := (N_inP h0).mp (h j h1)
-- values
abbrev N_bg (v : Nat → Int) : Prop := 0 ≤ v 10 ∨ 0 < v 25
def N_ar (v : Nat → Int) : Int := v 3 * v 4
abbrev N_hB (v : Nat → Int) (k : Int) : Prop := 0 ≤ k ∧ k ≤ 999 / N_ar v
abbrev N_hP (v : Nat → Int) (r k i : Int) : Prop := N_hB v k ∧ 0 ≤ i ∧ i ≤ (if r = 0 then v 3 else v 4) - 1
def N_pk (v : Nat → Int) (r k i : Int) : Int := if r = 0 then 1542 + v 3 * k + i else 1030 + v 4 * k + i
def N_cs (v : Nat → Int) (r : Int) : Int := if r = 0 then v 4 else v 3
def N_cv (v : Nat → Int) (r k i j : Int) : Int := N_ar v * k + (if r = 0 then v 3 * j + i else v 3 * i + j)
abbrev N_kn (v : Nat → Int) (x : Int) : Prop := 999 < x ∨ 0 < v (30 + x).toNat
def N_wv (v : Nat → Int) (x j : Int) : Int := v 2 * ((x * v 0 + j) % v 1) % 201 - 100
theorem N_ar_in {v : Nat → Int} (h : N_S v) : 4 ≤ N_ar v ∧ N_ar v ≤ 36 := by
  obtain ⟨-, -, -, h3, h4, -⟩ := h
  have h1 := Int.mul_le_mul h3.1 h4.1 (by omega) (by omega)
  have h2 := Int.mul_le_mul h3.2 h4.2 (by omega) (by omega)
  exact ⟨by unfold N_ar; omega, by unfold N_ar; omega⟩
theorem N_blk {v : Nat → Int} {x : Int} (h : N_S v) (hx : 0 ≤ x ∧ x ≤ 999) : 0 ≤ x / N_ar v ∧ x / N_ar v ≤ 999 / N_ar v := by
  have h1 := N_ar_in h
  exact ⟨Int.ediv_nonneg hx.1 (by omega), Int.ediv_le_ediv (by omega) hx.2⟩
theorem N_bk {v : Nat → Int} {k : Int} (h : N_S v) (hk : N_hB v k) : (0 ≤ k ∧ k ≤ 249) ∧ (0 ≤ N_ar v * k ∧ N_ar v * k ≤ 999) ∧ (0 ≤ v 3 * k ∧ v 3 * k ≤ 499) ∧ (0 ≤ v 4 * k ∧ v 4 * k ≤ 499) := by
  have h1 := N_ar_in h
  obtain ⟨-, -, -, h3, h4, -⟩ := h
  obtain ⟨k0, k1⟩ := hk
  have e1 := Int.mul_le_mul_of_nonneg_left k1 (by omega : 0 ≤ N_ar v)
  have e2 := Int.mul_ediv_self_le (x := 999) (k := N_ar v) (by omega)
  have e3 : N_ar v * k ≤ 999 := by omega
  have e4 := Int.mul_le_mul_of_nonneg_right h1.1 k0
  have a3 := Int.mul_nonneg (by omega : 0 ≤ v 3) k0
  have a4 := Int.mul_nonneg (by omega : 0 ≤ v 4) k0
  have b3 := Int.mul_le_mul_of_nonneg_left h4.1 a3
  have b4 := Int.mul_le_mul_of_nonneg_left h3.1 a4
  have c3 : v 3 * k * v 4 = N_ar v * k := by unfold N_ar; rw [Int.mul_assoc, Int.mul_comm k, ← Int.mul_assoc]
  have c4 : v 4 * k * v 3 = N_ar v * k := by unfold N_ar; rw [Int.mul_assoc, Int.mul_comm k, ← Int.mul_assoc, Int.mul_comm (v 4)]
  have d0 := Int.mul_nonneg (by omega : 0 ≤ N_ar v) k0
  exact ⟨by omega, by omega, by omega, by omega⟩
theorem N_pk_in {v : Nat → Int} {r k i : Int} (h : N_S v) (hk : N_hB v k) (hi : 0 ≤ i ∧ i ≤ 6) : 1030 ≤ N_pk v r k i ∧ N_pk v r k i < 2054 := by
  have := N_bk h hk
  unfold N_pk
  split <;> omega
theorem N_cv_in {v : Nat → Int} {r k i j : Int} (h : N_S v) (hk : N_hB v k) (hi : 0 ≤ i ∧ i ≤ 6) (hj : 0 ≤ j ∧ j ≤ 6) : 0 ≤ N_cv v r k i j ∧ N_cv v r k i j ≤ 1100 := by
  have := N_bk h hk
  obtain ⟨-, -, -, h3, h4, -⟩ := h
  have m1 := ja_mulb (by omega : 0 ≤ v 3) h3.2 hi.1 hi.2
  have m2 := ja_mulb (by omega : 0 ≤ v 3) h3.2 hj.1 hj.2
  unfold N_cv
  split <;> omega
theorem N_wv_in {v : Nat → Int} {x j : Int} : -100 ≤ N_wv v x j ∧ N_wv v x j ≤ 100 := by
  unfold N_wv
  omega
/-- the settings are the same -/
def N_ss (v w : Nat → Int) : Prop := ∀ j, j < 9 → w j = v j
theorem N_ss.rf {v : Nat → Int} : N_ss v v := fun _ _ => rfl
theorem N_ss.tr {u v w : Nat → Int} (h : N_ss u v) (h2 : N_ss v w) : N_ss u w := fun j hj => (h2 j hj).trans (h j hj)
theorem N_ss.rs {v w : Nat → Int} {i : Nat} {z : Int} (h : N_ss v w) (hi : 9 ≤ i) : N_ss v (ja_rs w i z) := fun j hj => by rw [ja_rs_n (by omega)]; exact h j hj
theorem N_ss.ar {v w : Nat → Int} (h : N_ss v w) : N_ar w = N_ar v := by unfold N_ar; rw [h 3 (by omega), h 4 (by omega)]
theorem N_ss.cv {v w : Nat → Int} {r k i j : Int} (h : N_ss v w) : N_cv w r k i j = N_cv v r k i j := by unfold N_cv; rw [h.ar, h 3 (by omega)]
theorem N_ss.pk {v w : Nat → Int} {r k i : Int} (h : N_ss v w) : N_pk w r k i = N_pk v r k i := by unfold N_pk; rw [h 3 (by omega), h 4 (by omega)]
theorem N_ss.cs {v w : Nat → Int} {r : Int} (h : N_ss v w) : N_cs w r = N_cs v r := by unfold N_cs; rw [h 3 (by omega), h 4 (by omega)]
theorem N_ss.hP {v w : Nat → Int} {r k i : Int} (h : N_ss v w) : N_hP w r k i ↔ N_hP v r k i := by simp only [N_hP, N_hB, h.ar, h 3 (by omega), h 4 (by omega)]
theorem N_ss.hB {v w : Nat → Int} {k : Int} (h : N_ss v w) : N_hB w k ↔ N_hB v k := by simp only [N_hB, h.ar]
theorem N_ss.S {v w : Nat → Int} (h : N_ss v w) (hS : N_S v) : N_S w := by
  unfold N_S
  rw [h 0 (by omega), h 1 (by omega), h 2 (by omega), h 3 (by omega), h 4 (by omega), h 5 (by omega), h 6 (by omega), h 7 (by omega), h 8 (by omega)]
  exact hS
-- restoring
def N_mi (v : Nat → Int) (r k i : Int) : Nat → Int
  | 0 => 0
  | j + 1 => N_mi v r k i j + if N_kn v (N_cv v r k i j) then 0 else 1
def N_r1 (v : Nat → Int) (r k i : Int) : Nat → (Nat → Int)
  | 0 => v
  | j + 1 => if N_kn (N_r1 v r k i j) (N_cv v r k i j) then N_r1 v r k i j else ja_rs (N_r1 v r k i j) (30 + N_cv v r k i j).toNat 1
def N_rn (v : Nat → Int) (r k i : Int) : Int := if N_mi v r k i (N_cs v r).toNat = 1 then 1 else 0
def N_rv (v : Nat → Int) (r k i : Int) : Nat → Int := if N_mi v r k i (N_cs v r).toNat = 1 then N_r1 v r k i (N_cs v r).toNat else v
def N_rr (a : Int) (v : Nat → Int) (r k : Int) : Nat → Int × (Nat → Int)
  | 0 => (0, v)
  | j + 1 => if ¬ a = 0 ∨ (N_rr a v r k j).2 (N_pk v r k j).toNat = 1 then ((N_rr a v r k j).1 + N_rn (N_rr a v r k j).2 r k j, N_rv (N_rr a v r k j).2 r k j) else N_rr a v r k j
def N_rd (a : Int) (v : Nat → Int) (k : Int) : Int × (Nat → Int) := ((N_rr a v 1 k (v 4).toNat).1 + (N_rr a (N_rr a v 1 k (v 4).toNat).2 0 k (v 3).toNat).1, (N_rr a (N_rr a v 1 k (v 4).toNat).2 0 k (v 3).toNat).2)
def N_rs (a k : Int) : Nat → Int → (Nat → Int) → Int × (Nat → Int)
  | 0, n, v => (n, v)
  | f + 1, n, v => if (N_rd a v k).1 = 0 then (n, (N_rd a v k).2) else N_rs a k f (n + (N_rd a v k).1) (N_rd a v k).2
theorem N_mi_in {v : Nat → Int} {r k i : Int} : ∀ j : Nat, 0 ≤ N_mi v r k i j ∧ N_mi v r k i j ≤ j
  | 0 => by simp [N_mi]
  | j + 1 => by
    have := @N_mi_in v r k i j
    simp only [N_mi]
    split <;> omega
/-- only frames change, and they only become known -/
def N_fr (v w : Nat → Int) : Prop := (∀ j, (j < 30 ∨ 1030 ≤ j) → w j = v j) ∧ (∀ j, 0 < v j → w j = v j) ∧ (∀ j, 30 ≤ j → j < 1030 → 0 ≤ v j ∧ v j ≤ 2 → 0 ≤ w j ∧ w j ≤ 2)
theorem N_fr.rf {v : Nat → Int} : N_fr v v := ⟨fun _ _ => rfl, fun _ _ => rfl, fun _ _ _ h => h⟩
theorem N_fr.tr {u v w : Nat → Int} (h : N_fr u v) (h2 : N_fr v w) : N_fr u w := ⟨fun j hj => (h2.1 j hj).trans (h.1 j hj), fun j hj => (h2.2.1 j (by rw [h.2.1 j hj]; exact hj)).trans (h.2.1 j hj), fun j a b c => h2.2.2 j a b (h.2.2 j a b c)⟩
theorem N_fr.ss {v w : Nat → Int} (h : N_fr v w) : N_ss v w := fun j hj => h.1 j (by omega)
theorem N_fr.R {v w : Nat → Int} (h : N_fr v w) (hR : N_R v) : N_R w := by
  intro j hj
  by_cases hq : j < 30 ∨ 1030 ≤ j
  · rw [h.1 j hq]
    exact hR j hj
  · exact (N_inF (by omega) (by omega)).mpr (h.2.2 j (by omega) (by omega) (hR.F (by omega) (by omega)))
theorem N_fr.rs {v w : Nat → Int} {i : Nat} {z : Int} (h : N_fr v w) (hi : 30 ≤ i ∧ i < 1030) (hz : 0 ≤ z ∧ z ≤ 2) (hw : w i ≤ 0) : N_fr v (ja_rs w i z) := by
  refine ⟨fun j hj => ?_, fun j hj => ?_, fun j a b c => ?_⟩
  · rw [ja_rs_n (by omega)]
    exact h.1 j hj
  · have e := h.2.1 j hj
    by_cases hq : j = i
    · subst hq
      omega
    · rw [ja_rs_n hq]
      exact e
  · by_cases hq : j = i
    · subst hq
      rw [ja_rs_s]
      exact hz
    · rw [ja_rs_n hq]
      exact h.2.2 j a b c
theorem N_r1_fr {v : Nat → Int} {r k i : Int} (hS : N_S v) (hk : N_hB v k) (hi : 0 ≤ i ∧ i ≤ 6) : ∀ j : Nat, j ≤ 6 → N_fr v (N_r1 v r k i j)
  | 0, _ => N_fr.rf
  | j + 1, hj => by
    have ih := N_r1_fr (r := r) hS hk hi j (by omega)
    have hc := N_cv_in (r := r) (j := (j : Int)) hS hk hi ⟨by omega, by omega⟩
    simp only [N_r1]
    split
    · exact ih
    · rename_i hn
      have h1 : ¬ 999 < N_cv v r k i j := fun q => hn (Or.inl q)
      have h2 : ¬ 0 < N_r1 v r k i j (30 + N_cv v r k i j).toNat := fun q => hn (Or.inr q)
      exact ih.rs ⟨by omega, by omega⟩ ⟨by omega, by omega⟩ (by omega)
theorem N_cs_in {v : Nat → Int} {r : Int} (hS : N_S v) : 2 ≤ N_cs v r ∧ N_cs v r ≤ 6 := by
  obtain ⟨-, -, -, h3, h4, -⟩ := hS
  unfold N_cs
  split <;> omega
theorem N_rv_fr {v : Nat → Int} {r k i : Int} (hS : N_S v) (hk : N_hB v k) (hi : 0 ≤ i ∧ i ≤ 6) : N_fr v (N_rv v r k i) := by
  have := @N_cs_in v r hS
  unfold N_rv
  split
  · exact N_r1_fr hS hk hi _ (by omega)
  · exact N_fr.rf
theorem N_rr_fr {a : Int} {v : Nat → Int} {r k : Int} (hS : N_S v) (hk : N_hB v k) : ∀ j : Nat, j ≤ 6 → N_fr v (N_rr a v r k j).2
  | 0, _ => N_fr.rf
  | j + 1, hj => by
    have ih := N_rr_fr (a := a) (r := r) hS hk j (by omega)
    simp only [N_rr]
    split
    · exact ih.tr (N_rv_fr (ih.ss.S hS) (ih.ss.hB.mpr hk) ⟨by omega, by omega⟩)
    · exact ih
theorem N_rd_fr {a : Int} {v : Nat → Int} {k : Int} (hS : N_S v) (hk : N_hB v k) : N_fr v (N_rd a v k).2 := by
  have s3 := hS.2.2.2.1
  have s4 := hS.2.2.2.2.1
  have h1 := N_rr_fr (a := a) (r := 1) hS hk (v 4).toNat (by omega)
  exact h1.tr (N_rr_fr (h1.ss.S hS) (h1.ss.hB.mpr hk) _ (by omega))
theorem N_rs_fr {a k : Int} : ∀ (f : Nat) (n : Int) (v : Nat → Int), N_S v → N_hB v k → N_fr v (N_rs a k f n v).2
  | 0, n, v, _, _ => N_fr.rf
  | f + 1, n, v, hS, hk => by
    have h1 := N_rd_fr (a := a) hS hk
    simp only [N_rs]
    split
    · exact h1
    · exact h1.tr (N_rs_fr f _ _ (h1.ss.S hS) (h1.ss.hB.mpr hk))
/-- how many frames of a block are unknown -/
def N_un (v : Nat → Int) (b : Int) : Nat → Nat
  | 0 => 0
  | j + 1 => N_un v b j + if N_kn v (b + j) then 0 else 1
theorem N_un_le {v : Nat → Int} {b : Int} : ∀ j, N_un v b j ≤ j
  | 0 => by simp [N_un]
  | j + 1 => by
    have := @N_un_le v b j
    simp only [N_un]
    split <;> omega
theorem N_kn_mono {v w : Nat → Int} {x : Int} (h : N_fr v w) (hk : N_kn v x) : N_kn w x := by
  rcases hk with h1 | h1
  · exact Or.inl h1
  · exact Or.inr (by rw [h.2.1 _ h1]; exact h1)
theorem N_un_mono {v w : Nat → Int} {b : Int} (h : N_fr v w) : ∀ j, N_un w b j ≤ N_un v b j
  | 0 => by simp [N_un]
  | j + 1 => by
    have ih := N_un_mono (b := b) h j
    simp only [N_un]
    by_cases h1 : N_kn v (b + j)
    · rw [if_pos h1, if_pos (N_kn_mono h h1)]
      omega
    · rw [if_neg h1]
      split <;> omega
theorem N_un_lt {v w : Nat → Int} {b : Int} {i : Nat} (h : N_fr v w) (hv : ¬ N_kn v (b + i)) (hw : N_kn w (b + i)) : ∀ j, i < j → N_un w b j + 1 ≤ N_un v b j
  | 0, hj => by omega
  | j + 1, hj => by
    simp only [N_un]
    by_cases hij : i = j
    · subst hij
      rw [if_neg hv, if_pos hw]
      have := N_un_mono (b := b) h i
      omega
    · have ih := N_un_lt h hv hw j (by omega)
      by_cases h1 : N_kn v (b + j)
      · rw [if_pos h1, if_pos (N_kn_mono h h1)]
        omega
      · rw [if_neg h1]
        split <;> omega
theorem N_mi_pos {v : Nat → Int} {r k i : Int} : ∀ j : Nat, 1 ≤ N_mi v r k i j → ∃ q : Nat, q < j ∧ ¬ N_kn v (N_cv v r k i q)
  | 0, h => by simp [N_mi] at h
  | j + 1, h => by
    simp only [N_mi] at h
    by_cases h1 : N_kn v (N_cv v r k i j)
    · rw [if_pos h1] at h
      obtain ⟨q, a, b⟩ := N_mi_pos (v := v) (r := r) (k := k) (i := i) j (by omega)
      exact ⟨q, by omega, b⟩
    · exact ⟨j, by omega, h1⟩
theorem N_r1_kn {v : Nat → Int} {r k i : Int} (hS : N_S v) (hk : N_hB v k) (hi : 0 ≤ i ∧ i ≤ 6) : ∀ j : Nat, j ≤ 6 → ∀ q : Nat, q < j → N_kn (N_r1 v r k i j) (N_cv v r k i q)
  | 0, _, q, hq => by omega
  | j + 1, hj, q, hq => by
    have hf := N_r1_fr (r := r) hS hk hi j (by omega)
    have hc := N_cv_in (r := r) (j := (j : Int)) hS hk hi ⟨by omega, by omega⟩
    simp only [N_r1]
    by_cases hqj : q = j
    · subst hqj
      split
      · assumption
      · exact Or.inr (by rw [ja_rs_s]; omega)
    · have ih := N_r1_kn (r := r) hS hk hi j (by omega) q (by omega)
      split
      · exact ih
      · rename_i hn
        have h1 : ¬ 999 < N_cv v r k i j := fun q => hn (Or.inl q)
        have h2 : ¬ 0 < N_r1 v r k i j (30 + N_cv v r k i j).toNat := fun q => hn (Or.inr q)
        exact N_kn_mono (N_fr.rf.rs ⟨by omega, by omega⟩ ⟨by omega, by omega⟩ (by omega)) ih
/-- a covered frame lies in its block -/
theorem N_cv_bk {v : Nat → Int} {r k i j : Int} (hS : N_S v) (hi : 0 ≤ i ∧ i < (if r = 0 then v 3 else v 4)) (hj : 0 ≤ j ∧ j < N_cs v r) : N_ar v * k ≤ N_cv v r k i j ∧ N_cv v r k i j < N_ar v * k + N_ar v := by
  obtain ⟨-, -, -, h3, h4, -⟩ := hS
  unfold N_cv
  unfold N_cs at hj
  by_cases hr : r = 0
  · rw [if_pos hr] at hi hj ⊢
    have m0 := Int.mul_nonneg (by omega : 0 ≤ v 3) hj.1
    have m1 := Int.mul_le_mul_of_nonneg_left (by omega : j ≤ v 4 - 1) (by omega : 0 ≤ v 3)
    rw [Int.mul_sub, Int.mul_one] at m1
    have e : N_ar v = v 3 * v 4 := rfl
    omega
  · rw [if_neg hr] at hi hj ⊢
    have m0 := Int.mul_nonneg (by omega : 0 ≤ v 3) hi.1
    have m1 := Int.mul_le_mul_of_nonneg_left (by omega : i ≤ v 4 - 1) (by omega : 0 ≤ v 3)
    rw [Int.mul_sub, Int.mul_one] at m1
    have e : N_ar v = v 3 * v 4 := rfl
    omega
abbrev N_U (v : Nat → Int) (k : Int) : Nat := N_un v (N_ar v * k) (N_ar v).toNat
theorem N_rv_un {v : Nat → Int} {r k i : Int} (hS : N_S v) (hk : N_hB v k) (hi : 0 ≤ i ∧ i < (if r = 0 then v 3 else v 4)) : N_rn v r k i + N_un (N_rv v r k i) (N_ar v * k) (N_ar v).toNat ≤ N_un v (N_ar v * k) (N_ar v).toNat := by
  have hc := @N_cs_in v r hS
  have ha := N_ar_in hS
  have h3 := hS.2.2.2.1
  have h4 := hS.2.2.2.2.1
  have hi6 : 0 ≤ i ∧ i ≤ 6 := by
    by_cases hr : r = 0
    · rw [if_pos hr] at hi
      omega
    · rw [if_neg hr] at hi
      omega
  unfold N_rn N_rv
  by_cases h1 : N_mi v r k i (N_cs v r).toNat = 1
  · rw [if_pos h1, if_pos h1]
    obtain ⟨q, a, b⟩ := N_mi_pos _ (by omega : 1 ≤ N_mi v r k i (N_cs v r).toNat)
    have hb := N_cv_bk (k := k) hS hi (j := (q : Int)) ⟨by omega, by omega⟩
    have e : N_cv v r k i q = N_ar v * k + ((N_cv v r k i q - N_ar v * k).toNat : Nat) := by omega
    have h2 := N_r1_kn (r := r) hS hk hi6 (N_cs v r).toNat (by omega) q a
    have hf := N_r1_fr (r := r) hS hk hi6 (N_cs v r).toNat (by omega)
    rw [e] at b h2
    have := N_un_lt hf b h2 (N_ar v).toNat (by omega)
    omega
  · rw [if_neg h1, if_neg h1]
    omega
theorem N_rn_01 {v : Nat → Int} {r k i : Int} : 0 ≤ N_rn v r k i ∧ N_rn v r k i ≤ 1 := by
  unfold N_rn
  split <;> omega
theorem N_rr_un {a : Int} {v : Nat → Int} {r k : Int} (hS : N_S v) (hk : N_hB v k) : ∀ j : Nat, (j : Int) ≤ (if r = 0 then v 3 else v 4) → 0 ≤ (N_rr a v r k j).1 ∧ (N_rr a v r k j).1 + N_un (N_rr a v r k j).2 (N_ar v * k) (N_ar v).toNat ≤ N_un v (N_ar v * k) (N_ar v).toNat
  | 0, _ => by
    simp only [N_rr]
    omega
  | j + 1, hj => by
    have h3 := hS.2.2.2.1
    have h4 := hS.2.2.2.2.1
    have hj6 : j + 1 ≤ 6 := by
      by_cases hr : r = 0
      · rw [if_pos hr] at hj
        omega
      · rw [if_neg hr] at hj
        omega
    have ih := N_rr_un (a := a) (r := r) hS hk j (by omega)
    have hf := N_rr_fr (a := a) (r := r) hS hk j (by omega)
    simp only [N_rr]
    split
    · have h1 := @N_rn_01 (N_rr a v r k j).2 r k j
      have h2 := N_rv_un (r := r) (i := (j : Int)) (hf.ss.S hS) (hf.ss.hB.mpr hk) ⟨by omega, by rw [hf.ss 3 (by omega), hf.ss 4 (by omega)]; omega⟩
      rw [hf.ss.ar] at h2
      dsimp only
      exact ⟨by omega, by omega⟩
    · exact ih
theorem N_rd_un {a : Int} {v : Nat → Int} {k : Int} (hS : N_S v) (hk : N_hB v k) : 0 ≤ (N_rd a v k).1 ∧ (N_rd a v k).1 + N_U (N_rd a v k).2 k ≤ N_U v k := by
  have s3 := hS.2.2.2.1
  have s4 := hS.2.2.2.2.1
  have h1 := N_rr_fr (a := a) (r := 1) hS hk (v 4).toNat (by omega)
  have u1 := N_rr_un (a := a) (r := 1) hS hk (v 4).toNat (by rw [if_neg (by omega)]; omega)
  have u2 := N_rr_un (a := a) (r := 0) (h1.ss.S hS) (h1.ss.hB.mpr hk) (v 3).toNat (by rw [if_pos rfl, h1.ss 3 (by omega)]; omega)
  have h3 := N_rd_fr (a := a) hS hk
  rw [h1.ss.ar] at u2
  unfold N_U
  rw [h3.ss.ar]
  have e1 : (N_rd a v k).1 = (N_rr a v 1 k (v 4).toNat).1 + (N_rr a (N_rr a v 1 k (v 4).toNat).2 0 k (v 3).toNat).1 := rfl
  have e2 : (N_rd a v k).2 = (N_rr a (N_rr a v 1 k (v 4).toNat).2 0 k (v 3).toNat).2 := rfl
  rw [e1, e2]
  exact ⟨by omega, by omega⟩
theorem N_rs_in {a k : Int} : ∀ (f : Nat) (n : Int) (v : Nat → Int), N_S v → N_hB v k → n ≤ (N_rs a k f n v).1 ∧ (N_rs a k f n v).1 ≤ n + N_U v k
  | 0, n, v, _, _ => by
    simp only [N_rs]
    omega
  | f + 1, n, v, hS, hk => by
    have h1 := N_rd_fr (a := a) hS hk
    have h2 := N_rd_un (a := a) hS hk
    simp only [N_rs]
    split
    · show n ≤ n ∧ n ≤ n + (N_U v k : Int)
      omega
    · have ih := N_rs_in (a := a) f (n + (N_rd a v k).1) _ (h1.ss.S hS) (h1.ss.hB.mpr hk)
      omega
