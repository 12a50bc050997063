section
-- the layout of the objects
def ja_nr : Nat → Option Nat := fun _ => none
abbrev ja_n9 : List (Option Value) := [none, none, none, none, none, none, none, none, none]
def ja_LS (lay : ja_Y) (a : Nat) : Prop := lay a = some (.inl (6, [none, none, none, none, none, none, none, none, none]))
def ja_LC (lay : ja_Y) (a : Nat) : Prop := lay a = some (.inl (2, [none, none, none, none, none, none, none, none, none]))
def ja_LF (lay : ja_Y) (a : Nat) : Prop := lay a = some (.inl (3, [some (.ref (a + 1)), some (.ref (a + 2)), some (.ref (a + 3))])) ∧ lay (a + 1) = some (.inr (1, 250, fun _ => none)) ∧ lay (a + 2) = some (.inr (1, 250, fun _ => none)) ∧ lay (a + 3) = some (.inr (0, 250, fun _ => none))
theorem ja_LF_1 {lay : ja_Y} {a : Nat} (h : ja_LF lay a) : lay (a + 1) = some (.inr (1, 250, fun _ => none)) := h.2.1
theorem ja_LF_2 {lay : ja_Y} {a : Nat} (h : ja_LF lay a) : lay (a + 2) = some (.inr (1, 250, fun _ => none)) := h.2.2.1
theorem ja_LF_3 {lay : ja_Y} {a : Nat} (h : ja_LF lay a) : lay (a + 3) = some (.inr (0, 250, fun _ => none)) := h.2.2.2
def ja_LT (lay : ja_Y) (a : Nat) : Prop := lay a = some (.inl (7, [some (.ref (a + 1)), some (.ref (a + 2)), none, none])) ∧ lay (a + 1) = some (.inr (0, 16, fun _ => none)) ∧ lay (a + 2) = some (.inr (0, 16, fun _ => none))
theorem ja_LT_1 {lay : ja_Y} {a : Nat} (h : ja_LT lay a) : lay (a + 1) = some (.inr (0, 16, fun _ => none)) := h.2.1
theorem ja_LT_2 {lay : ja_Y} {a : Nat} (h : ja_LT lay a) : lay (a + 2) = some (.inr (0, 16, fun _ => none)) := h.2.2
def ja_LP (lay : ja_Y) (a : Nat) : Prop := lay a = some (.inl (4, [some (.ref (a + 1)), none, none, some (.ref (a + 2)), none, some (.ref (a + 3)), none, some (.ref (a + 4))])) ∧ lay (a + 1) = some (.inr (0, 24, fun _ => none)) ∧ lay (a + 2) = some (.inr (0, 256, fun _ => none)) ∧ lay (a + 3) = some (.inr (0, 32, fun _ => none)) ∧ lay (a + 4) = some (.inr (0, 32, fun _ => none))
theorem ja_LP_1 {lay : ja_Y} {a : Nat} (h : ja_LP lay a) : lay (a + 1) = some (.inr (0, 24, fun _ => none)) := h.2.1
theorem ja_LP_2 {lay : ja_Y} {a : Nat} (h : ja_LP lay a) : lay (a + 2) = some (.inr (0, 256, fun _ => none)) := h.2.2.1
theorem ja_LP_3 {lay : ja_Y} {a : Nat} (h : ja_LP lay a) : lay (a + 3) = some (.inr (0, 32, fun _ => none)) := h.2.2.2.1
theorem ja_LP_4 {lay : ja_Y} {a : Nat} (h : ja_LP lay a) : lay (a + 4) = some (.inr (0, 32, fun _ => none)) := h.2.2.2.2
def ja_LA (lay : ja_Y) (a : Nat) : Prop := lay a = some (.inl (1, [some (.ref (a + 1)), some (.ref (a + 2)), some (.ref (a + 3)), some (.ref (a + 4)), none])) ∧ lay (a + 1) = some (.inr (0, 24, fun _ => none)) ∧ lay (a + 2) = some (.inr (0, 24, fun _ => none)) ∧ lay (a + 3) = some (.inr (0, 24, fun _ => none)) ∧ lay (a + 4) = some (.inr (0, 24, fun _ => none))
theorem ja_LA_1 {lay : ja_Y} {a : Nat} (h : ja_LA lay a) : lay (a + 1) = some (.inr (0, 24, fun _ => none)) := h.2.1
theorem ja_LA_2 {lay : ja_Y} {a : Nat} (h : ja_LA lay a) : lay (a + 2) = some (.inr (0, 24, fun _ => none)) := h.2.2.1
theorem ja_LA_3 {lay : ja_Y} {a : Nat} (h : ja_LA lay a) : lay (a + 3) = some (.inr (0, 24, fun _ => none)) := h.2.2.2.1
theorem ja_LA_4 {lay : ja_Y} {a : Nat} (h : ja_LA lay a) : lay (a + 4) = some (.inr (0, 24, fun _ => none)) := h.2.2.2.2
def ja_LX (lay : ja_Y) (a : Nat) : Prop := lay a = some (.inl (0, [some (.ref (a + 1)), none, none, none, none, none, none, none])) ∧ lay (a + 1) = some (.inr (0, 120, fun _ => none))
theorem ja_LX_1 {lay : ja_Y} {a : Nat} (h : ja_LX lay a) : lay (a + 1) = some (.inr (0, 120, fun _ => none)) := h.2
def ja_LR (lay : ja_Y) (b : Nat) : Prop := lay b = some (.inl (5, [some (.ref (b + 1)), some (.ref (b + 2)), some (.ref (b + 6)), some (.ref (b + 9)), some (.ref (b + 14)), some (.ref (b + 15)), none, none, none])) ∧ ja_LS lay (b + 1) ∧ ja_LF lay (b + 2) ∧ ja_LT lay (b + 6) ∧ ja_LP lay (b + 9) ∧ ja_LC lay (b + 14) ∧ ja_LA lay (b + 15)
theorem ja_LR_1 {lay : ja_Y} {a : Nat} (h : ja_LR lay a) : ja_LS lay (a + 1) := h.2.1
theorem ja_LR_2 {lay : ja_Y} {a : Nat} (h : ja_LR lay a) : ja_LF lay (a + 2) := h.2.2.1
theorem ja_LR_6 {lay : ja_Y} {a : Nat} (h : ja_LR lay a) : ja_LT lay (a + 6) := h.2.2.2.1
theorem ja_LR_9 {lay : ja_Y} {a : Nat} (h : ja_LR lay a) : ja_LP lay (a + 9) := h.2.2.2.2.1
theorem ja_LR_14 {lay : ja_Y} {a : Nat} (h : ja_LR lay a) : ja_LC lay (a + 14) := h.2.2.2.2.2.1
theorem ja_LR_15 {lay : ja_Y} {a : Nat} (h : ja_LR lay a) : ja_LA lay (a + 15) := h.2.2.2.2.2.2
-- answers
def ja_b (p : Prop) [Decidable p] : Int := if p then 1 else 0
def ja_rd (lay : ja_Y) (mem : ja_M) (n : Nat) (r : Option Value) : ja_P := fun v lay' mem' n' => r = v ∧ lay = lay' ∧ mem = mem' ∧ n = n'
theorem ja_mulb {a b A B : Int} (h0 : 0 ≤ a) (h1 : a ≤ A) (g0 : 0 ≤ b) (g1 : b ≤ B) : 0 ≤ a * b ∧ a * b ≤ A * B := ⟨Int.mul_nonneg h0 g0, Int.mul_le_mul h1 g1 g0 (by omega)⟩
/-- the settings' ranges -/
def ja_SO (mem : ja_M) (s : Nat) : Prop := (4 ≤ mem s 0 ∧ mem s 0 ≤ 16) ∧ (2 ≤ mem s 1 ∧ mem s 1 ≤ 32) ∧ (1 ≤ mem s 2 ∧ mem s 2 ≤ 200) ∧ (2 ≤ mem s 3 ∧ mem s 3 ≤ 6) ∧ (2 ≤ mem s 4 ∧ mem s 4 ≤ 6) ∧ (0 ≤ mem s 5 ∧ mem s 5 ≤ 200) ∧ (1 ≤ mem s 6 ∧ mem s 6 ≤ 100) ∧ (0 ≤ mem s 7 ∧ mem s 7 ≤ 100) ∧ (0 ≤ mem s 8 ∧ mem s 8 ≤ 1)
def ja_wave (mem : ja_M) (s : Nat) (f j : Int) : Int := mem s 2 * ((f * mem s 0 + j) % mem s 1) % 201 - 100
def ja_cells (mem : ja_M) (s : Nat) : Int := mem s 3 * mem s 4
theorem ja_SO.cells {mem : ja_M} {s : Nat} (h : ja_SO mem s) : 4 ≤ ja_cells mem s ∧ ja_cells mem s ≤ 36 := by
  obtain ⟨-, -, -, h3, h4, -⟩ := h
  have h1 := Int.mul_le_mul h3.1 h4.1 (by omega) (by omega)
  have h2 := Int.mul_le_mul h3.2 h4.2 (by omega) (by omega)
  exact ⟨by unfold ja_cells; omega, by unfold ja_cells; omega⟩
abbrev ja_hasB (mem : ja_M) (s : Nat) (blk : Int) : Prop := 0 ≤ blk ∧ blk ≤ 999 / ja_cells mem s
abbrev ja_hasP (mem : ja_M) (s : Nat) (row blk idx : Int) : Prop := ja_hasB mem s blk ∧ 0 ≤ idx ∧ idx < if row = 0 then mem s 3 else mem s 4
def ja_cov (mem : ja_M) (s : Nat) (row blk idx i : Int) : Int := blk * ja_cells mem s + if row = 0 then i * mem s 3 + idx else idx * mem s 3 + i
def ja_msk : List Bool → List (Option Value) → List (Option Value)
  | true :: b, x :: r => x :: ja_msk b r
  | false :: b, _ :: r => none :: ja_msk b r
  | [], r => r
  | _, [] => []
theorem ja_msk_in : ∀ (b : List Bool) (ls : List (Option Value)) (k : Nat) (v : Value), (ja_msk b ls)[k]? = some (some v) → ls[k]? = some (some v)
  | [], ls, k, v, h => by simpa [ja_msk] using h
  | true :: b, [], k, v, h => by simp [ja_msk] at h
  | false :: b, [], k, v, h => by simp [ja_msk] at h
  | true :: b, x :: r, 0, v, h => by simpa [ja_msk] using h
  | true :: b, x :: r, k + 1, v, h => by
    simp only [ja_msk, List.getElem?_cons_succ] at h ⊢
    exact ja_msk_in b r k v h
  | false :: b, x :: r, 0, v, h => by simp [ja_msk] at h
  | false :: b, x :: r, k + 1, v, h => by
    simp only [ja_msk, List.getElem?_cons_succ] at h ⊢
    exact ja_msk_in b r k v h
/-- fewer locals are known -/
theorem r_msk {C : ja_C} {cells slots n pc : Nat} {lay : ja_Y} {mem : ja_M} {ls ls' : List (Option Value)} {st : List Value} (b : List Bool) (h : ja_msk b ls = ls') (k : ja_W C cells slots lay mem n pc ls' st) : ja_W C cells slots lay mem n pc ls st := by
  subst h
  obtain ⟨p, l, e, R, s, m, args, below, meth, c, D, cA, B, nL, Q⟩ := C
  intro H locs lsA hH hS hl
  refine k H locs lsA hH hS (ja_has_sub hl fun q hq => ?_)
  obtain ⟨j, h1, h2⟩ := (ja_al_mem _ 0 q).mp hq
  exact (ja_al_mem _ 0 q).mpr ⟨j, h1, ja_msk_in b ls j q.2 h2⟩
end
section
-- rows of memory
theorem ja_up_x {mem : ja_M} {a j a' j' : Nat} {z : Int} (h : a' ≠ a ∨ j' ≠ j) : ja_up mem a j z a' j' = mem a' j' := by
  rcases h with h | h
  · exact ja_up_a h
  · exact ja_up_j h
theorem ja_nat (k : Nat) : Int.toNat (k : Int) = k := Int.toNat_natCast k
-- Counters
def C_kn (mem : ja_M) (a : Nat) (k : Int) : ja_M := ja_up (if k = 1 then ja_up mem a 0 (mem a 0 + 1) else ja_up mem a 1 (mem a 1 + 1)) a 7 0
def C_co (mem : ja_M) (a : Nat) : ja_M := ja_up (ja_up (ja_up mem a 2 (mem a 2 + 1)) a 7 (mem a 7 + 1)) a 8 (if mem a 8 < mem a 7 + 1 then mem a 7 + 1 else mem a 8)
def C_cp (mem : ja_M) (a o : Nat) : ja_M := ja_up (ja_up (ja_up (ja_up (ja_up (ja_up (ja_up (ja_up (ja_up mem a 0 (mem o 0)) a 1 (mem o 1)) a 2 (mem o 2)) a 3 (mem o 3)) a 4 (mem o 4)) a 5 (mem o 5)) a 6 (mem o 6)) a 7 (mem o 7)) a 8 (mem o 8)
-- Arrivals
def A_add (mem : ja_M) (a : Nat) (k m i t : Int) : ja_M := if mem a 4 < 24 then ja_up (ja_up (ja_up (ja_up (ja_up mem (a + 1) (mem a 4).toNat k) (a + 2) (mem a 4).toNat m) (a + 3) (mem a 4).toNat i) (a + 4) (mem a 4).toNat t) a 4 (mem a 4 + 1) else mem
theorem A_add_sz {mem : ja_M} {a : Nat} {k m i t : Int} (h : 0 ≤ mem a 4 ∧ mem a 4 ≤ 24) : 0 ≤ A_add mem a k m i t a 4 ∧ A_add mem a k m i t a 4 ≤ 24 := by
  unfold A_add
  split
  · rw [ja_up_s]
    omega
  · exact h
theorem A_add_o {mem : ja_M} {a q : Nat} {k m i t : Int} (h : q < a ∨ a + 5 ≤ q) : A_add mem a k m i t q = mem q := by
  unfold A_add
  split
  · funext j
    rw [ja_up_a (by omega), ja_up_a (by omega), ja_up_a (by omega), ja_up_a (by omega), ja_up_a (by omega)]
  · rfl
def A_all (mem : ja_M) (a o : Nat) : Nat → ja_M
  | 0 => mem
  | k + 1 => A_add (A_all mem a o k) a (mem (o + 1) k) (mem (o + 2) k) (mem (o + 3) k) (mem (o + 4) k)
theorem A_all_sz {mem : ja_M} {a o : Nat} (h : 0 ≤ mem a 4 ∧ mem a 4 ≤ 24) : ∀ k, 0 ≤ A_all mem a o k a 4 ∧ A_all mem a o k a 4 ≤ 24
  | 0 => h
  | k + 1 => A_add_sz (A_all_sz h k)
theorem A_all_o {mem : ja_M} {a o q : Nat} (h : q < a ∨ a + 5 ≤ q) : ∀ k, A_all mem a o k q = mem q
  | 0 => rfl
  | k + 1 => (A_add_o h).trans (A_all_o h k)
def A_rem (mem : ja_M) (a : Nat) (t : Int) : Nat → ja_M
  | 0 => ja_up mem a 4 0
  | k + 1 => if mem (a + 4) k = t then A_rem mem a t k else A_add (A_rem mem a t k) a (mem (a + 1) k) (mem (a + 2) k) (mem (a + 3) k) (mem (a + 4) k)
theorem A_rem_sz {mem : ja_M} {a : Nat} {t : Int} : ∀ k : Nat, k ≤ 24 → 0 ≤ A_rem mem a t k a 4 ∧ A_rem mem a t k a 4 ≤ k
  | 0, _ => by
    simp only [A_rem, ja_up_s]
    omega
  | k + 1, hk => by
    have h := @A_rem_sz mem a t k (by omega)
    simp only [A_rem]
    split
    · omega
    · unfold A_add
      split
      · rw [ja_up_s]
        omega
      · omega
theorem A_rem_k {mem : ja_M} {a : Nat} {t : Int} {c j : Nat} (hc : 1 ≤ c ∧ c ≤ 4) : ∀ k : Nat, k ≤ 24 → k ≤ j → A_rem mem a t k (a + c) j = mem (a + c) j
  | 0, _, _ => by
    simp only [A_rem]
    exact ja_up_a (by omega)
  | k + 1, hk, hj => by
    have h := @A_rem_k mem a t c j hc k (by omega) (by omega)
    have hs := @A_rem_sz mem a t k (by omega)
    simp only [A_rem]
    split
    · exact h
    · unfold A_add
      split
      · rw [ja_up_a (by omega), ja_up_x (by omega), ja_up_x (by omega), ja_up_x (by omega), ja_up_x (by omega)]
        exact h
      · exact h
-- Transits
def ja_rs (f : Nat → Int) (j : Nat) (z : Int) : Nat → Int := fun q => if q = j then z else f q
def ja_rw (mem : ja_M) (a : Nat) (f : Nat → Int) : ja_M := fun q => if q = a then f else mem q
theorem ja_rw_s (mem : ja_M) (a : Nat) (f : Nat → Int) : ja_rw mem a f a = f := by simp [ja_rw]
theorem ja_rw_n {mem : ja_M} {a q : Nat} {f : Nat → Int} (h : q ≠ a) : ja_rw mem a f q = mem q := by simp [ja_rw, h]
theorem ja_rw_up (mem : ja_M) (a j : Nat) (f : Nat → Int) (z : Int) : ja_up (ja_rw mem a f) a j z = ja_rw mem a (ja_rs f j z) := by
  funext q x
  unfold ja_up ja_rw ja_rs
  by_cases hq : q = a
  · simp [hq]
  · simp [hq]
theorem ja_rw_self (mem : ja_M) (a : Nat) : ja_rw mem a (mem a) = mem := by
  funext q
  unfold ja_rw
  by_cases hq : q = a
  · subst hq
    simp
  · simp [hq]
theorem ja_rw_rw (mem : ja_M) (a : Nat) (f g : Nat → Int) : ja_rw (ja_rw mem a f) a g = ja_rw mem a g := by
  funext q
  unfold ja_rw
  by_cases hq : q = a <;> simp [hq]
def T_ins (f : Nat → Int) (v : Int) : Nat → (Nat → Int)
  | 0 => ja_rs f 0 v
  | h + 1 => if v < f h then T_ins (ja_rs f (h + 1) (f h)) v h else ja_rs f (h + 1) v
theorem T_ins_in {v : Int} {P : Int → Prop} (hv : P v) : ∀ (h : Nat) (f : Nat → Int), (∀ j, P (f j)) → ∀ j, P (T_ins f v h j)
  | 0, f, hf, j => by
    simp only [T_ins, ja_rs]
    split
    · exact hv
    · exact hf j
  | h + 1, f, hf, j => by
    simp only [T_ins]
    split
    · refine T_ins_in hv h _ (fun q => ?_) j
      unfold ja_rs
      split
      · exact hf h
      · exact hf q
    · unfold ja_rs
      split
      · exact hv
      · exact hf j
def T_srt (f g : Nat → Int) : Nat → (Nat → Int)
  | 0 => g
  | k + 1 => T_ins (T_srt f g k) (f k) k
theorem T_cast0 : (((0 : Nat)) : Int).toNat = 0 := rfl
theorem T_srt_in {f g : Nat → Int} {P : Int → Prop} (hf : ∀ j, P (f j)) (hg : ∀ j, P (g j)) : ∀ k j, P (T_srt f g k j)
  | 0, j => hg j
  | k + 1, j => T_ins_in (hf k) k _ (T_srt_in hf hg k) j
def T_ct (mem : ja_M) (a : Nat) : Int := if mem a 2 + 1 < 16 then mem a 2 + 1 else 16
def T_add (mem : ja_M) (a : Nat) (v : Int) : ja_M := ja_rw (ja_up (ja_up (ja_up mem (a + 1) (mem a 3).toNat v) a 3 ((mem a 3 + 1) % 16)) a 2 (T_ct mem a)) (a + 2) (T_srt (ja_rs (mem (a + 1)) (mem a 3).toNat v) (mem (a + 2)) (T_ct mem a).toNat)
def T_spr (mem : ja_M) (a : Nat) (q : Int) : Int := if mem a 2 = 0 then 0 else mem (a + 2) ((q * mem a 2 + 99) / 100 - 1).toNat - mem (a + 2) 0
def T_cp (mem : ja_M) (a o : Nat) : ja_M := ja_up (ja_up (ja_cp (ja_cp mem (o + 1) (a + 1) 0 0 16) (o + 2) (a + 2) 0 0 16) a 2 (mem o 2)) a 3 (mem o 3)
def ja_sm (z : Int) : Prop := -1000000 ≤ z ∧ z ≤ 1000000
/-- the window's ranges -/
def ja_TO (mem : ja_M) (a : Nat) : Prop := (0 ≤ mem a 2 ∧ mem a 2 ≤ 16) ∧ (0 ≤ mem a 3 ∧ mem a 3 < 16) ∧ (∀ j, ja_sm (mem (a + 1) j)) ∧ ∀ j, ja_sm (mem (a + 2) j)
end
section
-- Frames: bits
def J_bc (x : Int64) : Int :=
  let a := x - ((x.toUInt64 >>> ((ja_I 1).toInt64.toUInt64 &&& Int64.toUInt64 63)).toInt64 &&& 6148914691236517205)
  let b := (a &&& 3689348814741910323) + ((a.toUInt64 >>> ((ja_I 2).toInt64.toUInt64 &&& Int64.toUInt64 63)).toInt64 &&& 3689348814741910323)
  let c := b + (b.toUInt64 >>> ((ja_I 4).toInt64.toUInt64 &&& Int64.toUInt64 63)).toInt64 &&& 1085102592571150095
  let d := c + (c.toUInt64 >>> ((ja_I 8).toInt64.toUInt64 &&& Int64.toUInt64 63)).toInt64
  let e := d + (d.toUInt64 >>> ((ja_I 16).toInt64.toUInt64 &&& Int64.toUInt64 63)).toInt64
  let f := e + (e.toUInt64 >>> ((ja_I 32).toInt64.toUInt64 &&& Int64.toUInt64 63)).toInt64
  (f.toInt32 &&& ja_I 127).toInt
abbrev ja_shl (a : Int64) (z : Int) : Int64 := a <<< ((ja_I z).toInt64 &&& 63)
abbrev ja_shr (a : Int64) (z : Int) : Int64 := a >>> ((ja_I z).toInt64 &&& 63)
def F_pb (row i : Int) : Int := (ja_I 1 <<< (ja_I (if row = 0 then 6 + i else i) &&& 31)).toInt
abbrev F_and (x y : Int) : Int := (ja_I x &&& ja_I y).toInt
abbrev F_or (x y : Int) : Int := (ja_I x ||| ja_I y).toInt
def F_lbc (cols i : Int) : Nat → Int64
  | 0 => 0
  | k + 1 => F_lbc cols i k ||| ja_shl 1 (k * cols + i)
def F_lb (mem : ja_M) (s : Nat) (row i : Int) : Int64 := if row = 0 then F_lbc (mem s 3) i (mem s 4).toNat else ja_shl (ja_shl 1 (mem s 3) - 1) (i * mem s 3)
def F_wl (mem : ja_M) (s : Nat) (x : Int64) (p row i : Int) : Int64 := if F_and p (F_pb row i) = 0 then x else if J_bc (F_lb mem s row i &&& (x ^^^ (-1))) = 1 then x ||| (F_lb mem s row i &&& (x ^^^ (-1))) else x
def F_ln (mem : ja_M) (s : Nat) (p row : Int) (x : Int64) : Nat → Int64
  | 0 => x
  | k + 1 => F_wl mem s (F_ln mem s p row x k) p row k
abbrev F_rd (mem : ja_M) (s : Nat) (p : Int) (x : Int64) : Int64 := F_ln mem s p 0 (F_ln mem s p 1 x (mem s 4).toNat) (mem s 3).toNat
def F_cp (mem : ja_M) (s : Nat) (p : Int) : Nat → Int64 → Int64
  | 0, x => x
  | k + 1, x => if F_rd mem s p x = x then x else F_cp mem s p k (F_rd mem s p x)
def F_bey (mem : ja_M) (s : Nat) (k : Int) : Int64 := if 1000 - k * ja_cells mem s < 64 then ja_shl (-1) (1000 - k * ja_cells mem s) else 0
def F_kn (mem : ja_M) (s f : Nat) (k : Int) : Int64 := ja_L (mem (f + 1) k.toNat) ||| F_bey mem s k
def F_st (mem : ja_M) (s f : Nat) (x : Int) : Int := if ja_shr (ja_L (mem (f + 2) (x / ja_cells mem s).toNat)) (x % ja_cells mem s) &&& 1 = 0 then (if ja_shr (ja_L (mem (f + 1) (x / ja_cells mem s).toNat)) (x % ja_cells mem s) &&& 1 = 0 then 0 else 1) else 2
def F_ad (mem : ja_M) (s f : Nat) (x : Int) : ja_M := ja_up (ja_up mem (f + 2) (x / ja_cells mem s).toNat (ja_L (mem (f + 2) (x / ja_cells mem s).toNat) ||| ja_shl 1 (x % ja_cells mem s)).toInt) (f + 1) (x / ja_cells mem s).toNat (ja_L (mem (f + 1) (x / ja_cells mem s).toNat) ||| ja_shl 1 (x % ja_cells mem s)).toInt
def F_ap (mem : ja_M) (f : Nat) (row k i : Int) : ja_M := ja_up mem (f + 3) k.toNat (F_or (mem (f + 3) k.toNat) (F_pb row i))
def F_re (mem : ja_M) (s f : Nat) (k : Int) : Int64 := F_cp mem s (mem (f + 3) k.toNat) 37 (F_kn mem s f k)
def F_fr (mem : ja_M) (s f : Nat) (x : Int) : Nat → Int
  | 0 => x
  | k + 1 => if F_st mem s f x = 0 then x else F_fr mem s f (x + 1) k
theorem F_fr_le {mem : ja_M} {s f : Nat} : ∀ (k : Nat) (x : Int), x ≤ F_fr mem s f x k ∧ F_fr mem s f x k ≤ x + k
  | 0, x => by simp [F_fr]
  | k + 1, x => by
    have h := @F_fr_le mem s f k (x + 1)
    simp only [F_fr]
    split <;> omega
theorem F_st_in {mem : ja_M} {s f : Nat} {x : Int} : 0 ≤ F_st mem s f x ∧ F_st mem s f x ≤ 2 := by
  unfold F_st
  split
  · split <;> omega
  · omega
theorem ja_blk {mem : ja_M} {s : Nat} {x : Int} (hO : ja_SO mem s) (hx : 0 ≤ x ∧ x ≤ 999) : (0 ≤ x / ja_cells mem s ∧ x / ja_cells mem s < 250) ∧ 0 ≤ x % ja_cells mem s ∧ x % ja_cells mem s < 36 := by
  have h := hO.cells
  refine ⟨⟨Int.ediv_nonneg hx.1 (by omega), ?_⟩, Int.emod_nonneg _ (by omega), ?_⟩
  · rw [Int.ediv_lt_iff_lt_mul (by omega)]
    have := Int.mul_le_mul_of_nonneg_left (by omega : 4 ≤ ja_cells mem s) (by omega : (0 : Int) ≤ 250)
    omega
  · have := Int.emod_lt_of_pos x (by omega : 0 < ja_cells mem s)
    omega
theorem ja_blk2 {mem : ja_M} {s : Nat} {k : Int} (hO : ja_SO mem s) (hk : ja_hasB mem s k) : (0 ≤ k ∧ k < 250) ∧ 0 ≤ k * ja_cells mem s ∧ k * ja_cells mem s ≤ 999 := by
  have h := hO.cells
  obtain ⟨h0, h1⟩ := hk
  have h2 : 999 / ja_cells mem s < 250 := by
    rw [Int.ediv_lt_iff_lt_mul (by omega)]
    have := Int.mul_le_mul_of_nonneg_left (by omega : 4 ≤ ja_cells mem s) (by omega : (0 : Int) ≤ 250)
    omega
  refine ⟨⟨h0, by omega⟩, Int.mul_nonneg h0 (by omega), ?_⟩
  have h3 := Int.mul_le_mul_of_nonneg_right h1 (by omega : 0 ≤ ja_cells mem s)
  have h4 := Int.ediv_mul_le (999 : Int) (by omega : ja_cells mem s ≠ 0)
  omega
theorem J_and127 (x : Int32) : 0 ≤ (x &&& ja_I 127).toInt ∧ (x &&& ja_I 127).toInt ≤ 127 := by
  have h : (x &&& ja_I 127).toInt = ((x.toBitVec &&& 127#32).toNat : Int) := by
    have h1 : (x &&& ja_I 127).toBitVec = x.toBitVec &&& 127#32 := by rw [Int32.toBitVec_and]; rfl
    show (x &&& ja_I 127).toBitVec.toInt = _
    rw [h1, BitVec.toInt_eq_toNat_of_lt]
    rw [BitVec.toNat_and]
    have := @Nat.and_le_right x.toBitVec.toNat (127#32).toNat
    have e : (127#32).toNat = 127 := rfl
    omega
  rw [h, BitVec.toNat_and]
  have := @Nat.and_le_right x.toBitVec.toNat (127#32).toNat
  have e : (127#32).toNat = 127 := rfl
  omega
theorem J_bc_le (x : Int64) : 0 ≤ J_bc x ∧ J_bc x ≤ 127 := J_and127 _
theorem F_and_in (x y : Int) : ja_in (F_and x y) := ja_range _
theorem F_pb_in (x y : Int) : ja_in (F_pb x y) := ja_range _
theorem ja_of' (x : Int32) : x = ja_I x.toInt := (ja_of x).symm
theorem ja_lcmp0 {a b : Int64} : lg_cmp a b = ja_I (if a > b then 1 else if a = b then 0 else -1) := by
  unfold lg_cmp
  split
  · rfl
  · split <;> rfl
theorem ja_lc_in {a b : Int64} : ja_in (if a > b then 1 else if a = b then 0 else -1) := by
  split
  · exact ⟨by omega, by omega⟩
  · split <;> exact ⟨by omega, by omega⟩
theorem ja_lc_0 {a b : Int64} : (if a > b then (1 : Int) else if a = b then 0 else -1) = 0 ↔ a = b := by
  constructor
  · intro h
    by_cases h1 : a > b
    · rw [if_pos h1] at h
      omega
    · rw [if_neg h1] at h
      by_cases h2 : a = b
      · exact h2
      · rw [if_neg h2] at h
        omega
  · intro h
    subst h
    rw [if_neg (by first | exact Int64.lt_irrefl _ | simp), if_pos rfl]
end
section
-- Player
def ja_sp (z : Int) : Prop := -100 ≤ z ∧ z ≤ 100
def P_put (mem : ja_M) (a : Nat) (v : Int) : ja_M := if mem a 1 < 24 then ja_up (ja_up mem (a + 1) (mem a 1).toNat v) a 1 (mem a 1 + 1) else mem
def P_pts (mem : ja_M) (a : Nat) (h : Nat → Int) : Nat → ja_M
  | 0 => mem
  | k + 1 => P_put (P_pts mem a h k) a (h k)
theorem P_put_o {mem : ja_M} {a q : Nat} {v : Int} (h : q ≠ a ∧ q ≠ a + 1) : P_put mem a v q = mem q := by
  unfold P_put
  split
  · funext j
    rw [ja_up_a h.1, ja_up_a h.2]
  · rfl
theorem P_put_j {mem : ja_M} {a j : Nat} {v : Int} (h : j ≠ 1) : P_put mem a v a j = mem a j := by
  unfold P_put
  split
  · rw [ja_up_j h, ja_up_a (by omega)]
  · rfl
theorem P_put_1 {mem : ja_M} {a : Nat} {v : Int} : P_put mem a v a 1 = if mem a 1 < 24 then mem a 1 + 1 else mem a 1 := by
  unfold P_put
  split
  · rw [ja_up_s]
  · rfl
theorem P_put_f {mem : ja_M} {a : Nat} {v : Int} (hv : ja_sp v) (h : ∀ j, ja_sp (mem (a + 1) j)) (j : Nat) : ja_sp (P_put mem a v (a + 1) j) := by
  unfold P_put
  split
  · rw [ja_up_a (by omega)]
    by_cases hj : j = (mem a 1).toNat
    · subst hj
      rw [ja_up_s]
      exact hv
    · rw [ja_up_j hj]
      exact h j
  · exact h j
theorem P_pts_o {mem : ja_M} {a q : Nat} {h : Nat → Int} (hq : q ≠ a ∧ q ≠ a + 1) : ∀ k, P_pts mem a h k q = mem q
  | 0 => rfl
  | k + 1 => (P_put_o hq).trans (P_pts_o hq k)
theorem P_pts_j {mem : ja_M} {a j : Nat} {h : Nat → Int} (hj : j ≠ 1) : ∀ k, P_pts mem a h k a j = mem a j
  | 0 => rfl
  | k + 1 => (P_put_j hj).trans (P_pts_j hj k)
theorem P_pts_1 {mem : ja_M} {a : Nat} {h : Nat → Int} (h0 : 0 ≤ mem a 1 ∧ mem a 1 ≤ 24) : ∀ k : Nat, (P_pts mem a h k a 1 = if mem a 1 + k ≤ 24 then mem a 1 + k else 24)
  | 0 => by
    simp only [P_pts]
    split <;> omega
  | k + 1 => by
    have ih := @P_pts_1 mem a h h0 k
    simp only [P_pts]
    rw [P_put_1, ih]
    split <;> split <;> split <;> omega
theorem P_pts_r {mem : ja_M} {a : Nat} {h : Nat → Int} (h0 : 0 ≤ mem a 1 ∧ mem a 1 ≤ 24) (k : Nat) : 0 ≤ P_pts mem a h k a 1 ∧ P_pts mem a h k a 1 ≤ 24 := by
  rw [P_pts_1 h0 k]
  split <;> omega
theorem P_pts_f {mem : ja_M} {a : Nat} {h : Nat → Int} : ∀ k : Nat, (∀ j, j < k → ja_sp (h j)) → (∀ j, ja_sp (mem (a + 1) j)) → ∀ j, ja_sp (P_pts mem a h k (a + 1) j)
  | 0, _, hf => hf
  | k + 1, hh, hf => P_put_f (hh k (by omega)) (P_pts_f k (fun j hj => hh j (by omega)) hf)
def P_ab (z : Int) : Int := if 0 ≤ z then z else 0 - z
def P_dif (g : Nat → Int) (p : Nat) : Nat → Int
  | 0 => 0
  | i + 1 => P_dif g p i + P_ab (g i - g (i + p))
theorem P_dif_in {g : Nat → Int} (hg : ∀ j, ja_sp (g j)) (p : Nat) : ∀ i : Nat, 0 ≤ P_dif g p i ∧ P_dif g p i ≤ 200 * i
  | 0 => by simp [P_dif]
  | i + 1 => by
    have ih := P_dif_in hg p i
    have h1 := hg i
    have h2 := hg (i + p)
    obtain ⟨a1, a2⟩ := h1
    obtain ⟨b1, b2⟩ := h2
    simp only [P_dif, P_ab]
    split <;> omega
def P_bt (ex d l s b : Int) : Bool := if ex = 0 then decide (d / l < s / b) else decide (d * b < s * l)
def P_lg (g : Nat → Int) (ex : Int) : Nat → Int × Int
  | 0 => (2, P_dif g 2 2)
  | k + 1 => if P_bt ex (P_dif g (k + 3) (k + 3)) ((k : Int) + 3) (P_lg g ex k).2 (P_lg g ex k).1 = true then ((k : Int) + 3, P_dif g (k + 3) (k + 3)) else P_lg g ex k
theorem P_lg_in {g : Nat → Int} {ex : Int} (hg : ∀ j, ja_sp (g j)) : ∀ k : Nat, k ≤ 14 → (2 ≤ (P_lg g ex k).1 ∧ (P_lg g ex k).1 ≤ k + 2) ∧ 0 ≤ (P_lg g ex k).2 ∧ (P_lg g ex k).2 ≤ 3200
  | 0, _ => by
    have := P_dif_in hg 2 2
    simp only [P_lg]
    exact ⟨⟨by omega, by omega⟩, by omega, by omega⟩
  | k + 1, hk => by
    have ih := P_lg_in (ex := ex) hg k (by omega)
    have h := P_dif_in hg (k + 3) (k + 3)
    simp only [P_lg]
    split
    · exact ⟨⟨by omega, by omega⟩, by omega, by omega⟩
    · exact ⟨⟨by omega, by omega⟩, by omega, by omega⟩
def P_fd : Nat → Int → Int
  | 0, x => x
  | k + 1, x => if x = 0 then x else P_fd k ((x * 3).tdiv 4)
theorem P_fd1 {x : Int} (hx : ja_sp x) : ja_sp ((x * 3).tdiv 4) := by
  obtain ⟨h1, h2⟩ := hx
  rcases Int.le_total 0 (x * 3) with h | h
  · rw [Int.tdiv_eq_ediv_of_nonneg h]
    exact ⟨by omega, by omega⟩
  · have e : (x * 3).tdiv 4 = -((-(x * 3)) / 4) := by
      rw [← Int.tdiv_eq_ediv_of_nonneg (by omega : 0 ≤ -(x * 3)), Int.neg_tdiv]
      omega
    rw [e]
    exact ⟨by omega, by omega⟩
theorem P_fd_in : ∀ (k : Nat) (x : Int), ja_sp x → ja_sp (P_fd k x)
  | 0, x, h => h
  | k + 1, x, h => by
    simp only [P_fd]
    split
    · exact h
    · exact P_fd_in k _ (P_fd1 h)
def P_mx (x y p i : Int) : Int := (x * (p - i) + y * i).tdiv p
theorem P_mx_in {x y p i : Int} (hx : ja_sp x) (hy : ja_sp y) (hi : 0 ≤ i ∧ i ≤ p) (hp : 0 < p) : ja_sp (P_mx x y p i) := by
  obtain ⟨a1, a2⟩ := hx
  obtain ⟨b1, b2⟩ := hy
  have u1 := Int.mul_le_mul_of_nonneg_right a2 (by omega : 0 ≤ p - i)
  have u2 := Int.mul_le_mul_of_nonneg_right a1 (by omega : 0 ≤ p - i)
  have v1 := Int.mul_le_mul_of_nonneg_right b2 hi.1
  have v2 := Int.mul_le_mul_of_nonneg_right b1 hi.1
  unfold P_mx
  generalize x * (p - i) = A at *
  generalize y * i = A2 at *
  have z1 : A + A2 ≤ 100 * p ∧ -(A + A2) ≤ 100 * p := ⟨by omega, by omega⟩
  rcases Int.le_total 0 (A + A2) with h | h
  · rw [Int.tdiv_eq_ediv_of_nonneg h]
    have w1 := Int.ediv_le_of_le_mul hp z1.1
    have w2 := Int.ediv_nonneg h (by omega : 0 ≤ p)
    exact ⟨by omega, by omega⟩
  · have e : (A + A2).tdiv p = -((-(A + A2)) / p) := by
      rw [← Int.tdiv_eq_ediv_of_nonneg (by omega : 0 ≤ -(A + A2)), Int.neg_tdiv]
      omega
    have w1 := Int.ediv_le_of_le_mul hp z1.2
    have w2 := Int.ediv_nonneg (by omega : 0 ≤ -(A + A2)) (by omega : 0 ≤ p)
    rw [e]
    exact ⟨by omega, by omega⟩
/-- the player's ranges -/
def ja_PO (mem : ja_M) (a : Nat) : Prop := (0 ≤ mem a 2 ∧ mem a 2 ≤ mem a 1 ∧ mem a 1 ≤ 24) ∧ (0 ≤ mem a 4 ∧ mem a 4 ≤ 1000000) ∧ (0 ≤ mem a 6 ∧ mem a 6 ≤ 1000) ∧ (∀ j, ja_sp (mem (a + 1) j)) ∧ (∀ j, ja_sp (mem (a + 2) j)) ∧ ∀ j, ja_sp (mem (a + 4) j)
def P_beg (mem : ja_M) (a : Nat) (k : Int) : ja_M := ja_up (ja_up (ja_up (ja_up mem (a + 3) (mem a 6 % 32).toNat k) a 6 (mem a 6 + 1)) a 1 0) a 2 0
def P_out (mem : ja_M) (a : Nat) : ja_M := if mem a 2 < mem a 1 then ja_up (ja_up (ja_up mem (a + 2) (mem a 4 % 256).toNat (mem (a + 1) (mem a 2).toNat)) a 4 (mem a 4 + 1)) a 2 (mem a 2 + 1) else mem
def P_ldr (mem : ja_M) (s : Nat) (fr : Int) (f : Nat → Int) : Nat → (Nat → Int)
  | 0 => f
  | k + 1 => ja_rs (P_ldr mem s fr f k) k (ja_wave mem s fr k)
def P_srr (mem : ja_M) (a : Nat) : Nat → (Nat → Int)
  | 0 => mem (a + 4)
  | k + 1 => ja_rs (P_srr mem a k) k (mem (a + 2) ((mem a 4 - (k + 1)) % 256).toNat)
def P_cpr (mem : ja_M) (a : Nat) (n : Int) : ja_M := P_pts (P_pts mem a (fun i => P_mx (mem (a + 4) i) (mem (a + 4) (i + (P_lg (mem (a + 4)) 1 (n / 2 - 2).toNat).1.toNat)) (P_lg (mem (a + 4)) 1 (n / 2 - 2).toNat).1 i) (P_lg (mem (a + 4)) 1 (n / 2 - 2).toNat).1.toNat) a (fun i => mem (a + 4) ((2 * (P_lg (mem (a + 4)) 1 (n / 2 - 2).toNat).1).toNat + i)) (n - 2 * (P_lg (mem (a + 4)) 1 (n / 2 - 2).toNat).1).toNat
theorem P_mxr {x y p i : Int} (hx : ja_sp x) (hy : ja_sp y) (hi : 0 ≤ i ∧ i ≤ p) (hp : p ≤ 1000) : -1000000 ≤ x * (p - i) + y * i ∧ x * (p - i) + y * i ≤ 1000000 := by
  obtain ⟨a1, a2⟩ := hx
  obtain ⟨b1, b2⟩ := hy
  have u1 := Int.mul_le_mul_of_nonneg_right a2 (by omega : 0 ≤ p - i)
  have u2 := Int.mul_le_mul_of_nonneg_right a1 (by omega : 0 ≤ p - i)
  have v1 := Int.mul_le_mul_of_nonneg_right b2 hi.1
  have v2 := Int.mul_le_mul_of_nonneg_right b1 hi.1
  omega
theorem ja_SO_c {mem mem' : ja_M} {s : Nat} (h : mem' s = mem s) (hO : ja_SO mem s) : ja_SO mem' s := by
  unfold ja_SO
  rw [h]
  exact hO
theorem P_lg_a {g : Nat → Int} {ex : Int} {k : Nat} (h : ¬ ex = 0) (h2 : ¬ (P_lg g ex k).2 * ((k : Int) + 3) ≤ P_dif g (k + 3) (k + 3) * (P_lg g ex k).1) : P_lg g ex (k + 1) = ((k : Int) + 3, P_dif g (k + 3) (k + 3)) := by
  have e : P_bt ex (P_dif g (k + 3) (k + 3)) ((k : Int) + 3) (P_lg g ex k).2 (P_lg g ex k).1 = true := by
    unfold P_bt
    rw [if_neg h]
    exact decide_eq_true (Int.not_le.mp h2)
  simp only [P_lg]
  rw [if_pos e]
theorem P_lg_b {g : Nat → Int} {ex : Int} {k : Nat} (h : ¬ ex = 0) (h2 : (P_lg g ex k).2 * ((k : Int) + 3) ≤ P_dif g (k + 3) (k + 3) * (P_lg g ex k).1) : P_lg g ex (k + 1) = P_lg g ex k := by
  have e : P_bt ex (P_dif g (k + 3) (k + 3)) ((k : Int) + 3) (P_lg g ex k).2 (P_lg g ex k).1 = false := by
    unfold P_bt
    rw [if_neg h]
    exact decide_eq_false (Int.not_lt.mpr h2)
  simp only [P_lg]
  rw [if_neg (by rw [e]; decide)]
theorem P_lg_c {g : Nat → Int} {ex : Int} {k : Nat} (h : ex = 0) (h2 : ¬ (P_lg g ex k).2 / (P_lg g ex k).1 ≤ P_dif g (k + 3) (k + 3) / ((k : Int) + 3)) : P_lg g ex (k + 1) = ((k : Int) + 3, P_dif g (k + 3) (k + 3)) := by
  have e : P_bt ex (P_dif g (k + 3) (k + 3)) ((k : Int) + 3) (P_lg g ex k).2 (P_lg g ex k).1 = true := by
    unfold P_bt
    rw [if_pos h]
    exact decide_eq_true (Int.not_le.mp h2)
  simp only [P_lg]
  rw [if_pos e]
theorem P_lg_d {g : Nat → Int} {ex : Int} {k : Nat} (h : ex = 0) (h2 : (P_lg g ex k).2 / (P_lg g ex k).1 ≤ P_dif g (k + 3) (k + 3) / ((k : Int) + 3)) : P_lg g ex (k + 1) = P_lg g ex k := by
  have e : P_bt ex (P_dif g (k + 3) (k + 3)) ((k : Int) + 3) (P_lg g ex k).2 (P_lg g ex k).1 = false := by
    unfold P_bt
    rw [if_pos h]
    exact decide_eq_false (Int.not_lt.mpr h2)
  simp only [P_lg]
  rw [if_neg (by rw [e]; decide)]
def P_str (mem : ja_M) (a : Nat) (n : Int) : ja_M := P_pts (P_pts (P_pts mem a (fun i => mem (a + 4) (0 + i)) (P_lg (mem (a + 4)) 1 (n / 2 - 2).toNat).1.toNat) a (fun i => P_mx (mem (a + 4) (i + (P_lg (mem (a + 4)) 1 (n / 2 - 2).toNat).1.toNat)) (mem (a + 4) i) (P_lg (mem (a + 4)) 1 (n / 2 - 2).toNat).1 i) (P_lg (mem (a + 4)) 1 (n / 2 - 2).toNat).1.toNat) a (fun i => mem (a + 4) ((P_lg (mem (a + 4)) 1 (n / 2 - 2).toNat).1.toNat + i)) (n - (P_lg (mem (a + 4)) 1 (n / 2 - 2).toNat).1).toNat
def P_pst (mem : ja_M) (a : Nat) : Int := if 32 < mem a 4 then 32 else mem a 4
def P_clg (mem : ja_M) (a : Nat) : Int := if P_pst mem a < 4 then 0 else (P_lg (P_srr mem a (P_pst mem a).toNat) 0 (P_pst mem a / 2 - 2).toNat).1
def P_csm (mem : ja_M) (a : Nat) (gap : Int) (i : Nat) : Int := if P_clg mem a = 0 then 0 else P_fd gap.toNat (P_srr mem a (P_pst mem a).toNat (P_clg mem a - 1 - (i : Int) % P_clg mem a).toNat)
def P_con (mem : ja_M) (a : Nat) (n gap : Int) : ja_M := P_pts (ja_rw mem (a + 4) (P_srr mem a (P_pst mem a).toNat)) a (P_csm mem a gap) n.toNat
theorem P_srr_in {mem : ja_M} {a : Nat} (h2 : ∀ j, ja_sp (mem (a + 2) j)) (h4 : ∀ j, ja_sp (mem (a + 4) j)) : ∀ k j, ja_sp (P_srr mem a k j)
  | 0, j => h4 j
  | k + 1, j => by
    simp only [P_srr, ja_rs]
    split
    · exact h2 _
    · exact P_srr_in h2 h4 k j
theorem P_clg_in {mem : ja_M} {a : Nat} (h0 : 0 ≤ mem a 4) (h2 : ∀ j, ja_sp (mem (a + 2) j)) (h4 : ∀ j, ja_sp (mem (a + 4) j)) : 0 ≤ P_clg mem a ∧ P_clg mem a ≤ 16 := by
  unfold P_clg
  split
  · omega
  · have hp : 4 ≤ P_pst mem a ∧ P_pst mem a ≤ 32 := by
      have : P_pst mem a ≤ 32 := by unfold P_pst; split <;> omega
      omega
    have := P_lg_in (ex := 0) (P_srr_in h2 h4 (P_pst mem a).toNat) (P_pst mem a / 2 - 2).toNat (by omega)
    omega
theorem P_csm_in {mem : ja_M} {a : Nat} {gap : Int} (h2 : ∀ j, ja_sp (mem (a + 2) j)) (h4 : ∀ j, ja_sp (mem (a + 4) j)) (i : Nat) : ja_sp (P_csm mem a gap i) := by
  unfold P_csm
  split
  · exact ⟨by omega, by omega⟩
  · exact P_fd_in _ _ (P_srr_in h2 h4 _ _)
def P_cp2 (mem : ja_M) (a o : Nat) : ja_M := ja_up (ja_cp (ja_up (ja_cp (ja_up (ja_up (ja_cp mem (o + 1) (a + 1) 0 0 24) a 1 (mem o 1)) a 2 (mem o 2)) (o + 2) (a + 2) 0 0 256) a 4 (mem o 4)) (o + 3) (a + 3) 0 0 32) a 6 (mem o 6)
end
section
-- Text
def X_ex (mem : ja_M) (x : Nat) (p : Int) : ja_M := ja_up (ja_up (ja_up mem x 2 p) x 3 0) x 4 0
def X_be (mem : ja_M) (x : Nat) (c : Int) : ja_M := if c = 100 then X_ex (ja_up mem x 5 0) x 1 else if c = 114 then X_ex (ja_up mem x 5 1) x 2 else if c = 99 then X_ex (ja_up mem x 5 2) x 2 else mem
def X_eon (mem : ja_M) (x : Nat) : Int := if mem x 2 = 2 then 46 else if mem x 2 = 4 then 59 else 64
def X_en (mem : ja_M) (x o : Nat) : ja_M := if mem x 2 = 2 then X_ex (ja_up mem x 6 (mem x 4)) x 3 else if mem x 2 = 3 then X_ex (ja_up mem x 7 (mem x 4)) x 4 else if mem x 2 = 4 then X_ex (A_add mem o (mem x 5) (mem x 6) (mem x 7) (mem x 4)) x 0 else X_ex (ja_up mem x 6 (mem x 4)) x 4
def X_fm (mem : ja_M) (x o : Nat) (c : Int) : ja_M := if mem x 2 = 0 then X_be mem x c else if 48 ≤ c ∧ c ≤ 57 then ja_up (ja_up mem x 4 (10 * mem x 4 + c - 48)) x 3 (mem x 3 + 1) else if mem x 3 = 0 ∨ ¬ c = X_eon mem x then mem else X_en mem x o
def X_fb (mem : ja_M) (x : Nat) (c : Int) : Int := if mem x 2 = 0 then ja_b (c = 100 ∨ c = 114 ∨ c = 99) else if 48 ≤ c ∧ c ≤ 57 then ja_b (mem x 3 + 1 ≤ 4) else if mem x 3 = 0 ∨ ¬ c = X_eon mem x then 0 else 1
def X_lp (f : Nat → Int) (x o : Nat) (ln : Int) : Nat → Nat → ja_M → Int × ja_M
  | 0, _, m => (if m x 2 = 0 then -1004 else ln, m)
  | r + 1, i, m => if X_fb m x (f i) = 0 then ((i : Int), X_fm m x o (f i)) else X_lp f x o ln r (i + 1) (X_fm m x o (f i))
/-- a text in reading: what is expected, the digits so far and their value, the numbers of the entry -/
def ja_XO (mem : ja_M) (x : Nat) : Prop := (0 ≤ mem x 2 ∧ mem x 2 ≤ 4) ∧ (mem x 2 = 0 ∨ (0 ≤ mem x 4 ∧ ((mem x 3 = 0 ∧ mem x 4 ≤ 0) ∨ (mem x 3 = 1 ∧ mem x 4 ≤ 9) ∨ (mem x 3 = 2 ∧ mem x 4 ≤ 99) ∨ (mem x 3 = 3 ∧ mem x 4 ≤ 999) ∨ (mem x 3 = 4 ∧ mem x 4 ≤ 9999)))) ∧ (0 ≤ mem x 5 ∧ mem x 5 ≤ 2) ∧ (0 ≤ mem x 6 ∧ mem x 6 ≤ 9999) ∧ (0 ≤ mem x 7 ∧ mem x 7 ≤ 9999)
def ja_n4 (z : Int) : Prop := 0 ≤ z ∧ z ≤ 9999
/-- arrivals: a size, their kinds, numbers that the text can bear -/
def ja_AO (mem : ja_M) (o : Nat) : Prop := (0 ≤ mem o 4 ∧ mem o 4 ≤ 24) ∧ (∀ j, 0 ≤ mem (o + 1) j ∧ mem (o + 1) j ≤ 2) ∧ (∀ j, ja_n4 (mem (o + 2) j)) ∧ (∀ j, ja_n4 (mem (o + 3) j)) ∧ ∀ j, ja_n4 (mem (o + 4) j)
theorem X_fb_01 {mem : ja_M} {x : Nat} {c : Int} : X_fb mem x c = 0 ∨ X_fb mem x c = 1 := by
  unfold X_fb ja_b
  split
  · split <;> omega
  · split
    · split <;> omega
    · split <;> omega
theorem X_ex_o {mem : ja_M} {x q : Nat} {p : Int} (h : q ≠ x) : X_ex mem x p q = mem q := by
  unfold X_ex
  rw [ja_up_row h, ja_up_row h, ja_up_row h]
theorem X_ex_j {mem : ja_M} {x j : Nat} {p : Int} (h : j ≠ 2 ∧ j ≠ 3 ∧ j ≠ 4) : X_ex mem x p x j = mem x j := by
  unfold X_ex
  rw [ja_up_j h.2.2, ja_up_j h.2.1, ja_up_j h.1]
theorem X_ex_2 {mem : ja_M} {x : Nat} {p : Int} : X_ex mem x p x 2 = p ∧ X_ex mem x p x 3 = 0 ∧ X_ex mem x p x 4 = 0 := by
  unfold X_ex
  refine ⟨?_, ?_, ?_⟩
  · rw [ja_up_j (by omega), ja_up_j (by omega), ja_up_s]
  · rw [ja_up_j (by omega), ja_up_s]
  · rw [ja_up_s]
theorem X_ex_XO {mem : ja_M} {x : Nat} {p : Int} (hp : 0 ≤ p ∧ p ≤ 4) (h : (0 ≤ mem x 5 ∧ mem x 5 ≤ 2) ∧ (0 ≤ mem x 6 ∧ mem x 6 ≤ 9999) ∧ (0 ≤ mem x 7 ∧ mem x 7 ≤ 9999)) : ja_XO (X_ex mem x p) x := by
  obtain ⟨e2, e3, e4⟩ := @X_ex_2 mem x p
  unfold ja_XO
  rw [e2, e3, e4, X_ex_j ⟨by omega, by omega, by omega⟩, X_ex_j ⟨by omega, by omega, by omega⟩, X_ex_j ⟨by omega, by omega, by omega⟩]
  exact ⟨hp, by omega, h.1, h.2.1, h.2.2⟩
theorem A_add_AO {mem : ja_M} {o : Nat} {k m i t : Int} (h : ja_AO mem o) (hk : 0 ≤ k ∧ k ≤ 2) (hm : ja_n4 m) (hi : ja_n4 i) (ht : ja_n4 t) : ja_AO (A_add mem o k m i t) o := by
  obtain ⟨h0, h1, h2, h3, h4⟩ := h
  refine ⟨A_add_sz h0, fun j => ?_, fun j => ?_, fun j => ?_, fun j => ?_⟩
  · unfold A_add
    split
    · rw [ja_up_a (by omega), ja_up_a (by omega), ja_up_a (by omega), ja_up_a (by omega)]
      by_cases hj : j = (mem o 4).toNat
      · subst hj
        rw [ja_up_s]
        exact hk
      · rw [ja_up_j hj]
        exact h1 j
    · exact h1 j
  · unfold A_add
    split
    · rw [ja_up_a (by omega), ja_up_a (by omega), ja_up_a (by omega)]
      by_cases hj : j = (mem o 4).toNat
      · subst hj
        rw [ja_up_s]
        exact hm
      · rw [ja_up_j hj, ja_up_a (by omega)]
        exact h2 j
    · exact h2 j
  · unfold A_add
    split
    · rw [ja_up_a (by omega), ja_up_a (by omega)]
      by_cases hj : j = (mem o 4).toNat
      · subst hj
        rw [ja_up_s]
        exact hi
      · rw [ja_up_j hj, ja_up_a (by omega), ja_up_a (by omega)]
        exact h3 j
    · exact h3 j
  · unfold A_add
    split
    · rw [ja_up_a (by omega)]
      by_cases hj : j = (mem o 4).toNat
      · subst hj
        rw [ja_up_s]
        exact ht
      · rw [ja_up_j hj, ja_up_a (by omega), ja_up_a (by omega), ja_up_a (by omega)]
        exact h4 j
    · exact h4 j
theorem ja_AO_c {mem mem' : ja_M} {o : Nat} (h : ∀ q, o ≤ q → q < o + 5 → mem' q = mem q) (hO : ja_AO mem o) : ja_AO mem' o := by
  unfold ja_AO
  rw [h o (by omega) (by omega), h (o + 1) (by omega) (by omega), h (o + 2) (by omega) (by omega), h (o + 3) (by omega) (by omega), h (o + 4) (by omega) (by omega)]
  exact hO
theorem X_en_XO {mem : ja_M} {x o : Nat} (h : ja_XO mem x) (hne : ¬ mem x 2 = 0) (hxo : x < o ∨ o + 5 ≤ x) : ja_XO (X_en mem x o) x := by
  obtain ⟨h2, h4, h5, h6, h7⟩ := h
  unfold X_en
  split
  · refine X_ex_XO (by omega) ?_
    rw [ja_up_j (by omega), ja_up_s, ja_up_j (by omega)]
    exact ⟨h5, ⟨by omega, by omega⟩, h7⟩
  · split
    · refine X_ex_XO (by omega) ?_
      rw [ja_up_j (by omega), ja_up_j (by omega), ja_up_s]
      exact ⟨h5, h6, ⟨by omega, by omega⟩⟩
    · split
      · refine X_ex_XO (by omega) ?_
        rw [A_add_o (by omega)]
        exact ⟨h5, h6, h7⟩
      · refine X_ex_XO (by omega) ?_
        rw [ja_up_j (by omega), ja_up_s, ja_up_j (by omega)]
        exact ⟨h5, ⟨by omega, by omega⟩, h7⟩
theorem X_en_AO {mem : ja_M} {x o : Nat} (h : ja_XO mem x) (hne : ¬ mem x 2 = 0) (hA : ja_AO mem o) (hxo : x < o ∨ o + 5 ≤ x) : ja_AO (X_en mem x o) o := by
  obtain ⟨h2, h4, h5, h6, h7⟩ := h
  unfold X_en
  split
  · exact ja_AO_c (fun q q1 q2 => by rw [X_ex_o (by omega), ja_up_row (by omega)]) hA
  · split
    · exact ja_AO_c (fun q q1 q2 => by rw [X_ex_o (by omega), ja_up_row (by omega)]) hA
    · split
      · exact ja_AO_c (fun q q1 q2 => by rw [X_ex_o (by omega)]) (A_add_AO hA h5 h6 h7 ⟨by omega, by omega⟩)
      · exact ja_AO_c (fun q q1 q2 => by rw [X_ex_o (by omega), ja_up_row (by omega)]) hA
theorem X_en_o {mem : ja_M} {x o q : Nat} (hq : q ≠ x ∧ (q < o ∨ o + 5 ≤ q)) : X_en mem x o q = mem q := by
  unfold X_en
  split
  · rw [X_ex_o hq.1, ja_up_row hq.1]
  · split
    · rw [X_ex_o hq.1, ja_up_row hq.1]
    · split
      · rw [X_ex_o hq.1, A_add_o hq.2]
      · rw [X_ex_o hq.1, ja_up_row hq.1]
theorem X_be_XO {mem : ja_M} {x : Nat} {c : Int} (h : ja_XO mem x) : ja_XO (X_be mem x c) x := by
  obtain ⟨h2, h4, h5, h6, h7⟩ := h
  unfold X_be
  split
  · refine X_ex_XO (by omega) ?_
    rw [ja_up_s, ja_up_j (by omega), ja_up_j (by omega)]
    exact ⟨by omega, h6, h7⟩
  · split
    · refine X_ex_XO (by omega) ?_
      rw [ja_up_s, ja_up_j (by omega), ja_up_j (by omega)]
      exact ⟨by omega, h6, h7⟩
    · split
      · refine X_ex_XO (by omega) ?_
        rw [ja_up_s, ja_up_j (by omega), ja_up_j (by omega)]
        exact ⟨by omega, h6, h7⟩
      · exact ⟨h2, h4, h5, h6, h7⟩
theorem X_be_o {mem : ja_M} {x q : Nat} {c : Int} (h : q ≠ x) : X_be mem x c q = mem q := by
  unfold X_be
  split
  · rw [X_ex_o h, ja_up_row h]
  · split
    · rw [X_ex_o h, ja_up_row h]
    · split
      · rw [X_ex_o h, ja_up_row h]
      · rfl
theorem X_ex_1 {mem : ja_M} {x : Nat} {p : Int} : X_ex mem x p x 1 = mem x 1 := X_ex_j ⟨by omega, by omega, by omega⟩
theorem X_fm_XO {mem : ja_M} {x o : Nat} {c : Int} (h : ja_XO mem x) (hxo : x < o ∨ o + 5 ≤ x) (hb : ¬ X_fb mem x c = 0) : ja_XO (X_fm mem x o c) x := by
  unfold X_fm
  unfold X_fb ja_b at hb
  split
  · exact X_be_XO h
  · rename_i h2
    rw [if_neg h2] at hb
    split
    · rename_i hc
      rw [if_pos hc] at hb
      obtain ⟨h2, h4, h5, h6, h7⟩ := h
      have hd : mem x 3 + 1 ≤ 4 := by
        by_cases q : mem x 3 + 1 ≤ 4
        · exact q
        · rw [if_neg q] at hb
          exact absurd rfl hb
      unfold ja_XO
      rw [ja_up_j (show (2 : Nat) ≠ 3 by omega), ja_up_j (show (2 : Nat) ≠ 4 by omega), ja_up_s, ja_up_j (show (4 : Nat) ≠ 3 by omega), ja_up_s, ja_up_j (show (5 : Nat) ≠ 3 by omega), ja_up_j (show (5 : Nat) ≠ 4 by omega), ja_up_j (show (6 : Nat) ≠ 3 by omega), ja_up_j (show (6 : Nat) ≠ 4 by omega), ja_up_j (show (7 : Nat) ≠ 3 by omega), ja_up_j (show (7 : Nat) ≠ 4 by omega)]
      exact ⟨h2, by omega, h5, h6, h7⟩
    · split
      · exact h
      · exact X_en_XO h h2 hxo
theorem X_fm_AO {mem : ja_M} {x o : Nat} {c : Int} (h : ja_XO mem x) (hA : ja_AO mem o) (hxo : x < o ∨ o + 5 ≤ x) : ja_AO (X_fm mem x o c) o := by
  unfold X_fm
  split
  · exact ja_AO_c (fun q q1 q2 => X_be_o (by omega)) hA
  · rename_i h2
    split
    · exact ja_AO_c (fun q q1 q2 => by rw [ja_up_row (by omega), ja_up_row (by omega)]) hA
    · split
      · exact hA
      · exact X_en_AO h h2 hA hxo
theorem X_fm_o {mem : ja_M} {x o q : Nat} {c : Int} (hq : q ≠ x ∧ (q < o ∨ o + 5 ≤ q)) : X_fm mem x o c q = mem q := by
  unfold X_fm
  split
  · exact X_be_o hq.1
  · split
    · rw [ja_up_row hq.1, ja_up_row hq.1]
    · split
      · rfl
      · exact X_en_o hq
theorem X_fm_1 {mem : ja_M} {x o : Nat} {c : Int} (hxo : x < o ∨ o + 5 ≤ x) : X_fm mem x o c x 1 = mem x 1 := by
  unfold X_fm X_be X_en
  split
  · split
    · rw [X_ex_1, ja_up_j (by omega)]
    · split
      · rw [X_ex_1, ja_up_j (by omega)]
      · split
        · rw [X_ex_1, ja_up_j (by omega)]
        · rfl
  · split
    · rw [ja_up_j (by omega), ja_up_j (by omega)]
    · split
      · rfl
      · split
        · rw [X_ex_1, ja_up_j (by omega)]
        · split
          · rw [X_ex_1, ja_up_j (by omega)]
          · split
            · rw [X_ex_1, A_add_o (by omega)]
            · rw [X_ex_1, ja_up_j (by omega)]
end
section
-- Receiver at b: settings b + 1, frames b + 2, transits b + 6, player b + 9, counters b + 14, schedule b + 15
def R_so (mem : ja_M) (b : Nat) : ja_M := if mem b 7 = 0 then ja_up (ja_up mem b 7 1) b 8 (mem b 6 + mem (b + 1) 5) else mem
def R_tg (mem : ja_M) (b : Nat) : Int := T_spr mem (b + 6) (mem (b + 1) 6) + mem (b + 1) 7
def R_lv (mem : ja_M) (b : Nat) (x : Int) : Int := mem (b + 1) 0 * (F_fr mem (b + 1) (b + 2) x (1000 - x).toNat - x)
def R_ad (mem : ja_M) (b : Nat) (x : Int) : ja_M := T_add (R_so mem b) (b + 6) ((R_so mem b) b 6 - x * (R_so mem b) (b + 1) 0)
def R_lt (mem : ja_M) (b : Nat) (x : Int) : ja_M := if x < mem (b + 9) 6 then ja_up mem (b + 14) 5 (mem (b + 14) 5 + 1) else mem
def R_kn (mem : ja_M) (b : Nat) (x : Int) : ja_M := F_ad (R_lt (R_ad mem b x) b x) (b + 1) (b + 2) x
def R_rs (mem : ja_M) (b : Nat) (k : Int) : ja_M := ja_up mem (b + 2 + 1) k.toNat (F_re mem (b + 1) (b + 2) k).toInt
def R_rn (mem : ja_M) (b : Nat) (k : Int) : Int := J_bc (F_re mem (b + 1) (b + 2) k &&& (F_kn mem (b + 1) (b + 2) k ^^^ (-1)))
def R_dp (mem : ja_M) (b : Nat) : ja_M := ja_up mem (b + 14) 6 (mem (b + 14) 6 + 1)
def R_af (mem : ja_M) (b : Nat) (x : Int) : ja_M := if F_st mem (b + 1) (b + 2) x = 0 then R_rs (R_kn mem b x) b (x / ja_cells (R_kn mem b x) (b + 1)) else R_dp mem b
def R_an (mem : ja_M) (b : Nat) (x : Int) : Int := if F_st mem (b + 1) (b + 2) x = 0 then 1 + R_rn (R_kn mem b x) b (x / ja_cells (R_kn mem b x) (b + 1)) else 0
def R_pk (mem : ja_M) (b : Nat) (r k i : Int) : ja_M := F_ap (R_so mem b) (b + 2) r k i
def R_ap (mem : ja_M) (b : Nat) (r k i : Int) : ja_M := if F_and (mem (b + 2 + 3) k.toNat) (F_pb r i) = 0 then R_rs (R_pk mem b r k i) b k else R_dp mem b
def R_pn (mem : ja_M) (b : Nat) (r k i : Int) : Int := if F_and (mem (b + 2 + 3) k.toNat) (F_pb r i) = 0 then R_rn (R_pk mem b r k i) b k else 0
def R_du (mem : ja_M) (b : Nat) : Nat → ja_M
  | 0 => mem
  | k + 1 => if mem (b + 15 + 4) k = mem b 6 then (if mem (b + 15 + 1) k = 0 then R_af (R_du mem b k) b (mem (b + 15 + 2) k) else R_ap (R_du mem b k) b (ja_b (mem (b + 15 + 1) k = 1)) (mem (b + 15 + 2) k) (mem (b + 15 + 3) k)) else R_du mem b k
def R_due (mem : ja_M) (b : Nat) : ja_M := A_rem (R_du mem b (mem (b + 15) 4).toNat) (b + 15) (mem b 6) (mem (b + 15) 4).toNat
def R_lw (mem : ja_M) (b : Nat) (x : Int) : ja_M := ja_rw mem (b + 9 + 4) (P_ldr mem (b + 1) x (mem (b + 9 + 4)) (mem (b + 1) 0).toNat)
def R_pkn (mem : ja_M) (b : Nat) (x : Int) : ja_M :=
  if (R_lw mem b x) (b + 1) 8 ≠ 0 ∧ R_tg mem b + mem (b + 1) 0 < R_lv mem b (x + 1) then P_cpr (ja_up (R_lw mem b x) (b + 14) 4 ((R_lw mem b x) (b + 14) 4 + 1)) (b + 9) (mem (b + 1) 0)
  else if (R_lw mem b x) (b + 1) 8 ≠ 0 ∧ R_lv mem b (x + 1) + mem (b + 1) 0 < R_tg mem b then P_str (ja_up (R_lw mem b x) (b + 14) 3 ((R_lw mem b x) (b + 14) 3 + 1)) (b + 9) (mem (b + 1) 0)
  else P_pts (R_lw mem b x) (b + 9) (fun i => (R_lw mem b x) (b + 9 + 4) (0 + i)) (mem (b + 1) 0).toNat
def R_tf (mem : ja_M) (b : Nat) (x : Int) : ja_M :=
  if F_st mem (b + 1) (b + 2) x = 0 then P_con (P_beg (C_co mem (b + 14)) (b + 9) 3) (b + 9) (mem (b + 1) 0) (mem (b + 14) 7 + 1)
  else R_pkn (P_beg (C_kn mem (b + 14) (if F_st mem (b + 1) (b + 2) x = 2 then 1 else 2)) (b + 9) (if F_st mem (b + 1) (b + 2) x = 2 then 1 else 2)) b x
def R_pl (mem : ja_M) (b : Nat) : ja_M :=
  if mem b 7 ≠ 0 ∧ mem b 8 ≤ mem b 6 then P_out (if mem (b + 9) 1 - mem (b + 9) 2 = 0 ∧ mem (b + 9) 6 ≤ 999 then R_tf mem b (mem (b + 9) 6) else mem) (b + 9) else mem
def R_tk (mem : ja_M) (b : Nat) : ja_M := ja_up (R_pl (R_due mem b) b) b 6 ((R_pl (R_due mem b) b) b 6 + 1)
/-- what is scheduled exists -/
def ja_VO (mem : ja_M) (b : Nat) : Prop := ∀ j : Nat, (j : Int) < mem (b + 15) 4 → (mem (b + 15 + 1) j = 0 → mem (b + 15 + 2) j ≤ 999) ∧ (¬ mem (b + 15 + 1) j = 0 → ja_hasP mem (b + 1) (ja_b (mem (b + 15 + 1) j = 1)) (mem (b + 15 + 2) j) (mem (b + 15 + 3) j))
/-- a receiver's ranges, with a bound of its time -/
def ja_RO (mem : ja_M) (b : Nat) (t : Int) : Prop := ja_SO mem (b + 1) ∧ ja_TO mem (b + 6) ∧ ja_PO mem (b + 9) ∧ ja_AO mem (b + 15) ∧ ja_VO mem b ∧ (0 ≤ mem b 6 ∧ mem b 6 ≤ t) ∧ (0 ≤ mem b 7 ∧ mem b 7 ≤ 1) ∧ (-1 ≤ mem b 8 ∧ mem b 8 ≤ t + 200) ∧ mem (b + 9) 4 ≤ mem b 6 ∧ (0 ≤ mem (b + 14) 7 ∧ mem (b + 14) 7 ≤ mem (b + 9) 6) ∧ (0 ≤ mem (b + 14) 8 ∧ mem (b + 14) 8 ≤ mem (b + 9) 6) ∧ (0 ≤ mem (b + 14) 2 ∧ mem (b + 14) 2 ≤ mem (b + 9) 6)
-- the rows that each leaves alone
theorem R_so_o {mem : ja_M} {b q : Nat} (h : q ≠ b) : R_so mem b q = mem q := by
  unfold R_so
  split
  · rw [ja_up_row h, ja_up_row h]
  · rfl
theorem R_so_j {mem : ja_M} {b j : Nat} (h : j ≠ 7 ∧ j ≠ 8) : R_so mem b b j = mem b j := by
  unfold R_so
  split
  · rw [ja_up_j h.2, ja_up_j h.1]
  · rfl
theorem T_add_o {mem : ja_M} {a q : Nat} {v : Int} (h : q < a ∨ a + 3 ≤ q) : T_add mem a v q = mem q := by
  unfold T_add
  rw [ja_rw_n (by omega), ja_up_row (by omega), ja_up_row (by omega), ja_up_row (by omega)]
theorem T_add_TO {mem : ja_M} {a : Nat} {v : Int} (h : ja_TO mem a) (hv : ja_sm v) : ja_TO (T_add mem a v) a := by
  obtain ⟨h2, h3, b1, b2⟩ := h
  have hct : 1 ≤ T_ct mem a ∧ T_ct mem a ≤ 16 := by unfold T_ct; split <;> omega
  have hb1 : ∀ j, ja_sm (ja_rs (mem (a + 1)) (mem a 3).toNat v j) := fun j => by unfold ja_rs; split; exact hv; exact b1 j
  unfold ja_TO T_add
  refine ⟨?_, ?_, fun j => ?_, fun j => ?_⟩
  · rw [ja_rw_n (by omega), ja_up_s]
    omega
  · rw [ja_rw_n (by omega), ja_up_j (by omega), ja_up_s]
    omega
  · rw [ja_rw_n (by omega), ja_up_a (by omega), ja_up_a (by omega)]
    have := hb1 j
    unfold ja_rs at this
    unfold ja_up
    by_cases hj : j = (mem a 3).toNat
    · simp only [hj, and_self, if_true] at this ⊢
      exact this
    · simp only [hj, and_false, if_false] at this ⊢
      exact this
  · rw [ja_rw_s]
    exact T_srt_in hb1 b2 _ j
theorem F_ad_o {mem : ja_M} {s f q : Nat} {x : Int} (h : q ≠ f + 1 ∧ q ≠ f + 2) : F_ad mem s f x q = mem q := by
  unfold F_ad
  rw [ja_up_row h.1, ja_up_row h.2]
theorem R_lt_o {mem : ja_M} {b q : Nat} {x : Int} (h : q ≠ b + 14) : R_lt mem b x q = mem q := by
  unfold R_lt
  split
  · rw [ja_up_row h]
  · rfl
theorem R_lt_j {mem : ja_M} {b j : Nat} {x : Int} (h : j ≠ 5) : R_lt mem b x (b + 14) j = mem (b + 14) j := by
  unfold R_lt
  split
  · rw [ja_up_j h]
  · rfl
theorem ja_SO_r {mem mem' : ja_M} {s : Nat} (h : mem' s = mem s) (hO : ja_SO mem s) : ja_SO mem' s := ja_SO_c h hO
theorem ja_TO_c {mem mem' : ja_M} {a : Nat} (h0 : mem' a = mem a) (h1 : mem' (a + 1) = mem (a + 1)) (h2 : mem' (a + 2) = mem (a + 2)) (hO : ja_TO mem a) : ja_TO mem' a := by
  unfold ja_TO
  rw [h0, h1, h2]
  exact hO
theorem ja_PO_c {mem mem' : ja_M} {a : Nat} (h0 : mem' a = mem a) (h1 : mem' (a + 1) = mem (a + 1)) (h2 : mem' (a + 2) = mem (a + 2)) (h4 : mem' (a + 4) = mem (a + 4)) (hO : ja_PO mem a) : ja_PO mem' a := by
  unfold ja_PO
  rw [h0, h1, h2, h4]
  exact hO
theorem ja_cells_c {mem mem' : ja_M} {s : Nat} (h : mem' s = mem s) : ja_cells mem' s = ja_cells mem s := by
  unfold ja_cells
  rw [h]
theorem ja_hasP_c {mem mem' : ja_M} {s : Nat} {r k i : Int} (h : mem' s = mem s) : ja_hasP mem' s r k i = ja_hasP mem s r k i := by
  simp only [ja_hasP, ja_hasB, ja_cells, h]
theorem ja_VO_c {mem mem' : ja_M} {b : Nat} (hs : mem' (b + 1) = mem (b + 1)) (h : ∀ q, b + 15 ≤ q → q < b + 20 → mem' q = mem q) (hO : ja_VO mem b) : ja_VO mem' b := by
  intro j hj
  rw [h (b + 15) (by omega) (by omega)] at hj
  rw [h (b + 15 + 1) (by omega) (by omega), h (b + 15 + 2) (by omega) (by omega), h (b + 15 + 3) (by omega) (by omega), ja_hasP_c hs]
  exact hO j hj
/-- ranges go over to a memory that is the same but in frames, counters' other places and the start -/
theorem ja_RO_c {mem mem' : ja_M} {b : Nat} {t : Int} (h : ja_RO mem b t) (hb : ∀ j, j ≠ 7 → j ≠ 8 → mem' b j = mem b j) (h7 : 0 ≤ mem' b 7 ∧ mem' b 7 ≤ 1) (h8 : -1 ≤ mem' b 8 ∧ mem' b 8 ≤ t + 200) (hs : mem' (b + 1) = mem (b + 1)) (hT : ja_TO mem' (b + 6)) (hp : ∀ q, b + 9 ≤ q → q < b + 14 → mem' q = mem q) (hc : ∀ j, (j = 7 ∨ j = 8 ∨ j = 2) → mem' (b + 14) j = mem (b + 14) j) (ha : ∀ q, b + 15 ≤ q → q < b + 20 → mem' q = mem q) : ja_RO mem' b t := by
  obtain ⟨g1, g2, g3, g4, g5, g6, g7, g8, g9, g10, g11, g12⟩ := h
  refine ⟨ja_SO_c hs g1, hT, ja_PO_c (hp _ (by omega) (by omega)) (hp _ (by omega) (by omega)) (hp _ (by omega) (by omega)) (hp _ (by omega) (by omega)) g3, ja_AO_c (fun q q1 q2 => ha q q1 (by omega)) g4, ja_VO_c hs ha g5, ?_, h7, h8, ?_, ?_, ?_, ?_⟩
  · rw [hb 6 (by omega) (by omega)]
    exact g6
  · rw [hb 6 (by omega) (by omega), hp (b + 9) (by omega) (by omega)]
    exact g9
  · rw [hc 7 (by omega), hp (b + 9) (by omega) (by omega)]
    exact g10
  · rw [hc 8 (by omega), hp (b + 9) (by omega) (by omega)]
    exact g11
  · rw [hc 2 (by omega), hp (b + 9) (by omega) (by omega)]
    exact g12
theorem R_so_RO {mem : ja_M} {b : Nat} {t : Int} (h : ja_RO mem b t) : ja_RO (R_so mem b) b t := by
  have h0 := h
  obtain ⟨g1, g2, g3, g4, g5, g6, g7, g8, g9, g10, g11, g12⟩ := h
  have h5 := g1.2.2.2.2.2.1
  refine ja_RO_c h0 (fun j h7 h8 => R_so_j ⟨h7, h8⟩) ?_ ?_ (R_so_o (by omega)) (ja_TO_c (R_so_o (by omega)) (R_so_o (by omega)) (R_so_o (by omega)) g2) (fun q q1 q2 => R_so_o (by omega)) (fun j _ => by rw [R_so_o (by omega)]) (fun q q1 q2 => R_so_o (by omega))
  · unfold R_so
    split
    · rw [ja_up_j (by omega), ja_up_s]
      omega
    · exact g7
  · unfold R_so
    split
    · rw [ja_up_s]
      omega
    · exact g8
theorem ja_frame {mem : ja_M} {b : Nat} {t x : Int} (h : ja_RO mem b t) (hx : 0 ≤ x ∧ x ≤ 999) : 0 ≤ x * mem (b + 1) 0 ∧ x * mem (b + 1) 0 ≤ 15984 := by
  obtain ⟨h1, h2⟩ := ja_mulb hx.1 hx.2 (by have := h.1.1; omega : 0 ≤ mem (b + 1) 0) (by have := h.1.1; omega : mem (b + 1) 0 ≤ 16)
  exact ⟨h1, by omega⟩
theorem R_ad_RO {mem : ja_M} {b : Nat} {t x : Int} (h : ja_RO mem b t) (ht : t ≤ 900000) (hx : 0 ≤ x ∧ x ≤ 999) : ja_RO (R_ad mem b x) b t := by
  have h1 := R_so_RO h
  have hf := ja_frame h1 hx
  have h6 := h1.2.2.2.2.2.1
  have hv : ja_sm ((R_so mem b) b 6 - x * (R_so mem b) (b + 1) 0) := ⟨by omega, by omega⟩
  have g := h1
  obtain ⟨g1, g2, g3, g4, g5, g6, g7, g8, g9, g10, g11, g12⟩ := h1
  unfold R_ad
  exact ja_RO_c g (fun j _ _ => by rw [T_add_o (by omega)]) (by rw [T_add_o (by omega)]; exact g7) (by rw [T_add_o (by omega)]; exact g8) (T_add_o (by omega)) (T_add_TO g2 hv) (fun q q1 q2 => T_add_o (by omega)) (fun j _ => by rw [T_add_o (by omega)]) (fun q q1 q2 => T_add_o (by omega))
theorem R_same {mem mem' : ja_M} {b : Nat} {t : Int} (h : ja_RO mem b t) (hq : ∀ q, q ≠ b + 3 → q ≠ b + 4 → q ≠ b + 5 → q ≠ b + 14 → mem' q = mem q) (hc : ∀ j, (j = 7 ∨ j = 8 ∨ j = 2) → mem' (b + 14) j = mem (b + 14) j) : ja_RO mem' b t := by
  have g := h
  obtain ⟨g1, g2, g3, g4, g5, g6, g7, g8, g9, g10, g11, g12⟩ := h
  have hb := hq b (by omega) (by omega) (by omega) (by omega)
  exact ja_RO_c g (fun j _ _ => by rw [hb]) (by rw [hb]; exact g7) (by rw [hb]; exact g8) (hq _ (by omega) (by omega) (by omega) (by omega)) (ja_TO_c (hq _ (by omega) (by omega) (by omega) (by omega)) (hq _ (by omega) (by omega) (by omega) (by omega)) (hq _ (by omega) (by omega) (by omega) (by omega)) g2) (fun q q1 q2 => hq _ (by omega) (by omega) (by omega) (by omega)) hc (fun q q1 q2 => hq _ (by omega) (by omega) (by omega) (by omega))
theorem R_lt_RO {mem : ja_M} {b : Nat} {t x : Int} (h : ja_RO mem b t) : ja_RO (R_lt mem b x) b t := R_same h (fun q _ _ _ q4 => R_lt_o q4) (fun j hj => R_lt_j (by omega))
theorem R_kn_RO {mem : ja_M} {b : Nat} {t x : Int} (h : ja_RO mem b t) (ht : t ≤ 900000) (hx : 0 ≤ x ∧ x ≤ 999) : ja_RO (R_kn mem b x) b t := R_same (R_lt_RO (x := x) (R_ad_RO h ht hx)) (fun q q1 q2 q3 q4 => F_ad_o ⟨by omega, by omega⟩) (fun j hj => by rw [R_kn, F_ad_o ⟨by omega, by omega⟩])
theorem R_rs_o {mem : ja_M} {b q : Nat} {k : Int} (h : q ≠ b + 3) : R_rs mem b k q = mem q := by
  unfold R_rs
  exact ja_up_row (by omega)
theorem R_rs_RO {mem : ja_M} {b : Nat} {t k : Int} (h : ja_RO mem b t) : ja_RO (R_rs mem b k) b t := R_same h (fun q q1 q2 q3 q4 => R_rs_o q1) (fun j hj => by rw [R_rs_o (by omega)])
theorem R_dp_RO {mem : ja_M} {b : Nat} {t : Int} (h : ja_RO mem b t) : ja_RO (R_dp mem b) b t := R_same h (fun q q1 q2 q3 q4 => by unfold R_dp; exact ja_up_row q4) (fun j hj => by unfold R_dp; exact ja_up_j (by omega))
theorem R_af_RO {mem : ja_M} {b : Nat} {t x : Int} (h : ja_RO mem b t) (ht : t ≤ 900000) (hx : 0 ≤ x ∧ x ≤ 999) : ja_RO (R_af mem b x) b t := by
  unfold R_af
  split
  · exact R_rs_RO (R_kn_RO h ht hx)
  · exact R_dp_RO h
theorem R_pk_RO {mem : ja_M} {b : Nat} {t r k i : Int} (h : ja_RO mem b t) : ja_RO (R_pk mem b r k i) b t := R_same (R_so_RO h) (fun q q1 q2 q3 q4 => by unfold R_pk F_ap; exact ja_up_row (by omega)) (fun j hj => by unfold R_pk F_ap; exact ja_up_a (by omega))
theorem R_ap_RO {mem : ja_M} {b : Nat} {t r k i : Int} (h : ja_RO mem b t) : ja_RO (R_ap mem b r k i) b t := by
  unfold R_ap
  split
  · exact R_rs_RO (R_pk_RO h)
  · exact R_dp_RO h
end
section
theorem F_ap_o {mem : ja_M} {f q : Nat} {r k i : Int} (h : q ≠ f + 3) : F_ap mem f r k i q = mem q := by
  unfold F_ap
  exact ja_up_row h
theorem R_ad_o {mem : ja_M} {b q : Nat} {x : Int} (h : q ≠ b ∧ (q < b + 6 ∨ b + 9 ≤ q)) : R_ad mem b x q = mem q := by
  unfold R_ad
  rw [T_add_o (by omega), R_so_o h.1]
theorem R_af_o {mem : ja_M} {b q : Nat} {x : Int} (h : b + 15 ≤ q ∨ q = b + 1) : R_af mem b x q = mem q := by
  unfold R_af
  split
  · rw [R_rs_o (by omega), R_kn, F_ad_o ⟨by omega, by omega⟩, R_lt_o (by omega), R_ad_o ⟨by omega, by omega⟩]
  · unfold R_dp
    exact ja_up_row (by omega)
theorem R_af_6 {mem : ja_M} {b : Nat} {x : Int} : R_af mem b x b 6 = mem b 6 := by
  unfold R_af
  split
  · rw [R_rs_o (by omega), R_kn, F_ad_o ⟨by omega, by omega⟩, R_lt_o (by omega), R_ad, T_add_o (by omega), R_so_j ⟨by omega, by omega⟩]
  · unfold R_dp
    exact ja_up_a (by omega)
theorem R_ap_o {mem : ja_M} {b q : Nat} {r k i : Int} (h : b + 15 ≤ q ∨ q = b + 1) : R_ap mem b r k i q = mem q := by
  unfold R_ap
  split
  · rw [R_rs_o (by omega), R_pk, F_ap_o (by omega), R_so_o (by omega)]
  · unfold R_dp
    exact ja_up_row (by omega)
theorem R_ap_6 {mem : ja_M} {b : Nat} {r k i : Int} : R_ap mem b r k i b 6 = mem b 6 := by
  unfold R_ap
  split
  · rw [R_rs_o (by omega), R_pk, F_ap_o (by omega), R_so_j ⟨by omega, by omega⟩]
  · unfold R_dp
    exact ja_up_a (by omega)
theorem R_du_o {mem : ja_M} {b q : Nat} (h : b + 15 ≤ q ∨ q = b + 1) : ∀ k, R_du mem b k q = mem q
  | 0 => rfl
  | k + 1 => by
    simp only [R_du]
    split
    · split
      · exact (R_af_o h).trans (R_du_o h k)
      · exact (R_ap_o h).trans (R_du_o h k)
    · exact R_du_o h k
theorem R_du_6 {mem : ja_M} {b : Nat} : ∀ k, R_du mem b k b 6 = mem b 6
  | 0 => rfl
  | k + 1 => by
    simp only [R_du]
    split
    · split
      · exact R_af_6.trans (R_du_6 k)
      · exact R_ap_6.trans (R_du_6 k)
    · exact R_du_6 k
theorem R_du_RO {mem : ja_M} {b : Nat} {t : Int} (h : ja_RO mem b t) (ht : t ≤ 900000) : ∀ k : Nat, (k : Int) ≤ mem (b + 15) 4 → ja_RO (R_du mem b k) b t
  | 0, _ => h
  | k + 1, hk => by
    have ih := R_du_RO h ht k (by omega)
    have hv := h.2.2.2.2.1 k (by omega)
    have hn := h.2.2.2.1.2.2.1 k
    obtain ⟨n1, n2⟩ := hn
    simp only [R_du]
    split
    · split
      · rename_i h1 h2
        exact R_af_RO ih ht ⟨n1, hv.1 h2⟩
      · exact R_ap_RO ih
    · exact ih
theorem A_rem_sub {mem : ja_M} {a : Nat} {t : Int} : ∀ k : Nat, k ≤ 24 → ∀ j : Nat, (j : Int) < A_rem mem a t k a 4 → ∃ i : Nat, i < k ∧ A_rem mem a t k (a + 1) j = mem (a + 1) i ∧ A_rem mem a t k (a + 2) j = mem (a + 2) i ∧ A_rem mem a t k (a + 3) j = mem (a + 3) i ∧ A_rem mem a t k (a + 4) j = mem (a + 4) i
  | 0, _, j, hj => by
    simp only [A_rem, ja_up_s] at hj
    omega
  | k + 1, hk, j, hj => by
    have ih := @A_rem_sub mem a t k (by omega) j
    have hs := @A_rem_sz mem a t k (by omega)
    simp only [A_rem] at hj ⊢
    split
    · rename_i hc
      rw [if_pos hc] at hj
      obtain ⟨i, h1, h2⟩ := ih hj
      exact ⟨i, by omega, h2⟩
    · rename_i hc
      rw [if_neg hc] at hj
      have hlt : A_rem mem a t k a 4 < 24 := by omega
      unfold A_add at hj ⊢
      rw [if_pos hlt] at hj ⊢
      rw [ja_up_s] at hj
      by_cases hjs : j = (A_rem mem a t k a 4).toNat
      · subst hjs
        refine ⟨k, by omega, ?_, ?_, ?_, ?_⟩
        · rw [ja_up_a (by omega), ja_up_a (by omega), ja_up_a (by omega), ja_up_a (by omega), ja_up_s]
        · rw [ja_up_a (by omega), ja_up_a (by omega), ja_up_a (by omega), ja_up_s]
        · rw [ja_up_a (by omega), ja_up_a (by omega), ja_up_s]
        · rw [ja_up_a (by omega), ja_up_s]
      · obtain ⟨i, h1, g1, g2, g3, g4⟩ := ih (by omega)
        refine ⟨i, by omega, ?_, ?_, ?_, ?_⟩
        · rw [ja_up_a (by omega), ja_up_a (by omega), ja_up_a (by omega), ja_up_a (by omega), ja_up_j hjs]
          exact g1
        · rw [ja_up_a (by omega), ja_up_a (by omega), ja_up_a (by omega), ja_up_j hjs, ja_up_a (by omega)]
          exact g2
        · rw [ja_up_a (by omega), ja_up_a (by omega), ja_up_j hjs, ja_up_a (by omega), ja_up_a (by omega)]
          exact g3
        · rw [ja_up_a (by omega), ja_up_j hjs, ja_up_a (by omega), ja_up_a (by omega), ja_up_a (by omega)]
          exact g4
theorem A_rem_AO {mem : ja_M} {a : Nat} {t : Int} (h : ja_AO mem a) : ∀ k : Nat, k ≤ 24 → ja_AO (A_rem mem a t k) a
  | 0, _ => by
    obtain ⟨h0, h1, h2, h3, h4⟩ := h
    simp only [A_rem]
    refine ⟨by rw [ja_up_s]; omega, fun j => ?_, fun j => ?_, fun j => ?_, fun j => ?_⟩
    · rw [ja_up_a (by omega)]
      exact h1 j
    · rw [ja_up_a (by omega)]
      exact h2 j
    · rw [ja_up_a (by omega)]
      exact h3 j
    · rw [ja_up_a (by omega)]
      exact h4 j
  | k + 1, hk => by
    have ih := A_rem_AO (t := t) h k (by omega)
    simp only [A_rem]
    split
    · exact ih
    · exact A_add_AO ih (h.2.1 k) (h.2.2.1 k) (h.2.2.2.1 k) (h.2.2.2.2 k)
theorem A_rem_o {mem : ja_M} {a q : Nat} {t : Int} (h : q < a ∨ a + 5 ≤ q) : ∀ k, A_rem mem a t k q = mem q
  | 0 => by
    simp only [A_rem]
    exact ja_up_row (by omega)
  | k + 1 => by
    simp only [A_rem]
    split
    · exact A_rem_o h k
    · exact (A_add_o h).trans (A_rem_o h k)
theorem R_due_RO {mem : ja_M} {b : Nat} {t : Int} (h : ja_RO mem b t) (ht : t ≤ 900000) : ja_RO (R_due mem b) b t := by
  have h4 := h.2.2.2.1.1
  have hd := R_du_RO h ht (mem (b + 15) 4).toNat (by omega)
  have ho : ∀ q, q < b + 15 → R_due mem b q = R_du mem b (mem (b + 15) 4).toNat q := fun q hq => by
    unfold R_due
    exact A_rem_o (by omega) _
  have hk : (mem (b + 15) 4).toNat ≤ 24 := by omega
  obtain ⟨g1, g2, g3, g4, g5, g6, g7, g8, g9, g10, g11, g12⟩ := hd
  refine ⟨ja_SO_c (ho _ (by omega)) g1, ja_TO_c (ho _ (by omega)) (ho _ (by omega)) (ho _ (by omega)) g2, ja_PO_c (ho _ (by omega)) (ho _ (by omega)) (ho _ (by omega)) (ho _ (by omega)) g3, A_rem_AO g4 _ hk, ?_, by rw [ho _ (by omega)]; exact g6, by rw [ho _ (by omega)]; exact g7, by rw [ho _ (by omega)]; exact g8, by rw [ho _ (by omega), ho b (by omega)]; exact g9, by rw [ho _ (by omega), ho (b + 9) (by omega)]; exact g10, by rw [ho _ (by omega), ho (b + 9) (by omega)]; exact g11, by rw [ho _ (by omega), ho (b + 9) (by omega)]; exact g12⟩
  intro j hj
  obtain ⟨i, h1, e1, e2, e3, e4⟩ := A_rem_sub _ hk j hj
  have hv := g5 i (by rw [R_du_o (by omega)]; omega)
  rw [show R_due mem b (b + 15 + 1) j = _ from e1, show R_due mem b (b + 15 + 2) j = _ from e2, show R_due mem b (b + 15 + 3) j = _ from e3, ja_hasP_c (ho (b + 1) (by omega))]
  exact hv
theorem P_beg_o {mem : ja_M} {a q : Nat} {k : Int} (h : q ≠ a ∧ q ≠ a + 3) : P_beg mem a k q = mem q := by
  unfold P_beg
  rw [ja_up_row h.1, ja_up_row h.1, ja_up_row h.1, ja_up_row h.2]
theorem P_beg_s {mem : ja_M} {a : Nat} {k : Int} : P_beg mem a k a 1 = 0 ∧ P_beg mem a k a 2 = 0 ∧ P_beg mem a k a 4 = mem a 4 ∧ P_beg mem a k a 6 = mem a 6 + 1 := by
  unfold P_beg
  refine ⟨?_, ?_, ?_, ?_⟩
  · rw [ja_up_j (by omega), ja_up_s]
  · rw [ja_up_s]
  · rw [ja_up_j (by omega), ja_up_j (by omega), ja_up_j (by omega), ja_up_a (by omega)]
  · rw [ja_up_j (by omega), ja_up_j (by omega), ja_up_s]
theorem C_co_o {mem : ja_M} {a q : Nat} (h : q ≠ a) : C_co mem a q = mem q := by
  unfold C_co
  rw [ja_up_row h, ja_up_row h, ja_up_row h]
theorem C_kn_o {mem : ja_M} {a q : Nat} {k : Int} (h : q ≠ a) : C_kn mem a k q = mem q := by
  unfold C_kn
  rw [ja_up_row h]
  split
  · rw [ja_up_row h]
  · rw [ja_up_row h]
theorem C_kn_s {mem : ja_M} {a : Nat} {k : Int} : C_kn mem a k a 7 = 0 ∧ C_kn mem a k a 8 = mem a 8 ∧ C_kn mem a k a 2 = mem a 2 := by
  unfold C_kn
  refine ⟨by rw [ja_up_s], ?_, ?_⟩
  · rw [ja_up_j (by omega)]
    split <;> rw [ja_up_j (by omega)]
  · rw [ja_up_j (by omega)]
    split <;> rw [ja_up_j (by omega)]
theorem C_co_s {mem : ja_M} {a : Nat} : C_co mem a a 7 = mem a 7 + 1 ∧ C_co mem a a 8 = (if mem a 8 < mem a 7 + 1 then mem a 7 + 1 else mem a 8) ∧ C_co mem a a 2 = mem a 2 + 1 := by
  unfold C_co
  refine ⟨?_, ?_, ?_⟩
  · rw [ja_up_j (by omega), ja_up_s]
  · rw [ja_up_s]
  · rw [ja_up_j (by omega), ja_up_j (by omega), ja_up_s]
/-- a frame was taken: the player's and the counters' rows are new, all else is as it was -/
theorem R_taken {mem mem' : ja_M} {b : Nat} {t : Int} (h : ja_RO mem b t) (hn : mem (b + 9) 6 ≤ 999) (hq : ∀ q, q ≠ b + 9 → q ≠ b + 10 → q ≠ b + 12 → q ≠ b + 13 → q ≠ b + 14 → mem' q = mem q) (h1 : 0 ≤ mem' (b + 9) 1 ∧ mem' (b + 9) 1 ≤ 24) (h2 : mem' (b + 9) 2 = 0) (h4 : mem' (b + 9) 4 = mem (b + 9) 4) (h6 : mem' (b + 9) 6 = mem (b + 9) 6 + 1) (hf : ∀ j, ja_sp (mem' (b + 9 + 1) j)) (hs : ∀ j, ja_sp (mem' (b + 9 + 4) j)) (c7 : 0 ≤ mem' (b + 14) 7 ∧ mem' (b + 14) 7 ≤ mem (b + 14) 7 + 1) (c8 : 0 ≤ mem' (b + 14) 8 ∧ mem' (b + 14) 8 ≤ mem (b + 9) 6 + 1) (c2 : 0 ≤ mem' (b + 14) 2 ∧ mem' (b + 14) 2 ≤ mem (b + 14) 2 + 1) : ja_RO mem' b t := by
  obtain ⟨g1, g2, g3, g4, g5, g6, g7, g8, g9, g10, g11, g12⟩ := h
  obtain ⟨p1, p2, p3, p4, p5, p6⟩ := g3
  have hb := hq b (by omega) (by omega) (by omega) (by omega) (by omega)
  refine ⟨ja_SO_c (hq _ (by omega) (by omega) (by omega) (by omega) (by omega)) g1, ja_TO_c (hq _ (by omega) (by omega) (by omega) (by omega) (by omega)) (hq _ (by omega) (by omega) (by omega) (by omega) (by omega)) (hq _ (by omega) (by omega) (by omega) (by omega) (by omega)) g2, ⟨by omega, by omega, by omega, hf, fun j => by rw [hq (b + 9 + 2) (by omega) (by omega) (by omega) (by omega) (by omega)]; exact p5 j, hs⟩, ja_AO_c (fun q q1 q2 => hq q (by omega) (by omega) (by omega) (by omega) (by omega)) g4, ja_VO_c (hq _ (by omega) (by omega) (by omega) (by omega) (by omega)) (fun q q1 q2 => hq q (by omega) (by omega) (by omega) (by omega) (by omega)) g5, by rw [hb]; exact g6, by rw [hb]; exact g7, by rw [hb]; exact g8, by rw [hb]; omega, by omega, by omega, by omega⟩
end
section
theorem ja_wave_sp {mem : ja_M} {s : Nat} {x j : Int} : ja_sp (ja_wave mem s x j) := by
  unfold ja_wave
  generalize mem s 2 * ((x * mem s 0 + j) % mem s 1) = z
  exact ⟨by omega, by omega⟩
theorem P_ldr_in {mem : ja_M} {s : Nat} {x : Int} {f : Nat → Int} (hf : ∀ j, ja_sp (f j)) : ∀ k j, ja_sp (P_ldr mem s x f k j)
  | 0, j => hf j
  | k + 1, j => by
    simp only [P_ldr, ja_rs]
    split
    · exact ja_wave_sp
    · exact P_ldr_in hf k j
/-- samples were put: only the player's length, its frame, its source and counters of stretched and compressed may be new -/
def ja_Q (M M' : ja_M) (b : Nat) : Prop := (∀ q, q ≠ b + 9 → q ≠ b + 9 + 1 → q ≠ b + 9 + 4 → q ≠ b + 14 → M' q = M q) ∧ (∀ j, j ≠ 1 → M' (b + 9) j = M (b + 9) j) ∧ (0 ≤ M' (b + 9) 1 ∧ M' (b + 9) 1 ≤ 24) ∧ (∀ j, ja_sp (M' (b + 9 + 1) j)) ∧ (∀ j, ja_sp (M' (b + 9 + 4) j)) ∧ ∀ j, (j = 7 ∨ j = 8 ∨ j = 2) → M' (b + 14) j = M (b + 14) j
theorem Q_refl {M : ja_M} {b : Nat} (h1 : 0 ≤ M (b + 9) 1 ∧ M (b + 9) 1 ≤ 24) (hf : ∀ j, ja_sp (M (b + 9 + 1) j)) (hs : ∀ j, ja_sp (M (b + 9 + 4) j)) : ja_Q M M b := ⟨fun _ _ _ _ _ => rfl, fun _ _ => rfl, h1, hf, hs, fun _ _ => rfl⟩
theorem Q_pts {M M' : ja_M} {b : Nat} {h : Nat → Int} {k : Nat} (hQ : ja_Q M M' b) (hh : ∀ j, j < k → ja_sp (h j)) : ja_Q M (P_pts M' (b + 9) h k) b := by
  obtain ⟨q1, q2, q3, q4, q5, q6⟩ := hQ
  refine ⟨fun q a1 a2 a3 a4 => by rw [P_pts_o ⟨a1, a2⟩]; exact q1 q a1 a2 a3 a4, fun j hj => by rw [P_pts_j hj]; exact q2 j hj, P_pts_r q3 k, P_pts_f k hh q4, fun j => by rw [P_pts_o ⟨by omega, by omega⟩]; exact q5 j, fun j hj => by rw [P_pts_o ⟨by omega, by omega⟩]; exact q6 j hj⟩
theorem Q_rw {M M' : ja_M} {b : Nat} {g : Nat → Int} (hQ : ja_Q M M' b) (hg : ∀ j, ja_sp (g j)) : ja_Q M (ja_rw M' (b + 9 + 4) g) b := by
  obtain ⟨q1, q2, q3, q4, q5, q6⟩ := hQ
  refine ⟨fun q a1 a2 a3 a4 => by rw [ja_rw_n a3]; exact q1 q a1 a2 a3 a4, fun j hj => by rw [ja_rw_n (by omega)]; exact q2 j hj, by rw [ja_rw_n (by omega)]; exact q3, fun j => by rw [ja_rw_n (by omega)]; exact q4 j, fun j => by rw [ja_rw_s]; exact hg j, fun j hj => by rw [ja_rw_n (by omega)]; exact q6 j hj⟩
theorem Q_ct {M M' : ja_M} {b c : Nat} {z : Int} (hQ : ja_Q M M' b) (hc : c = 3 ∨ c = 4) : ja_Q M (ja_up M' (b + 14) c z) b := by
  obtain ⟨q1, q2, q3, q4, q5, q6⟩ := hQ
  refine ⟨fun q a1 a2 a3 a4 => by rw [ja_up_row a4]; exact q1 q a1 a2 a3 a4, fun j hj => by rw [ja_up_a (by omega)]; exact q2 j hj, by rw [ja_up_a (by omega)]; exact q3, fun j => by rw [ja_up_a (by omega)]; exact q4 j, fun j => by rw [ja_up_a (by omega)]; exact q5 j, fun j hj => by rw [ja_up_j (by omega)]; exact q6 j hj⟩
theorem P_cpr_Q {M M' : ja_M} {b : Nat} {n : Int} (hQ : ja_Q M M' b) (hn : 4 ≤ n ∧ n ≤ 16) : ja_Q M (P_cpr M' (b + 9) n) b := by
  have hs := hQ.2.2.2.2.1
  have hl := P_lg_in (ex := 1) hs (n / 2 - 2).toNat (by omega)
  unfold P_cpr
  refine Q_pts (Q_pts hQ (fun j hj => P_mx_in (hs _) (hs _) ⟨by omega, by omega⟩ (by omega))) (fun j _ => hs _)
theorem P_str_Q {M M' : ja_M} {b : Nat} {n : Int} (hQ : ja_Q M M' b) (hn : 4 ≤ n ∧ n ≤ 16) : ja_Q M (P_str M' (b + 9) n) b := by
  have hs := hQ.2.2.2.2.1
  have hl := P_lg_in (ex := 1) hs (n / 2 - 2).toNat (by omega)
  unfold P_str
  refine Q_pts (Q_pts (Q_pts hQ (fun j _ => hs _)) (fun j hj => P_mx_in (hs _) (hs _) ⟨by omega, by omega⟩ (by omega))) (fun j _ => hs _)
theorem P_con_Q {M : ja_M} {b : Nat} {n g : Int} (hQ : ja_Q M M b) (h2 : ∀ j, ja_sp (M (b + 9 + 2) j)) : ja_Q M (P_con M (b + 9) n g) b := by
  have hs := hQ.2.2.2.2.1
  unfold P_con
  exact Q_pts (Q_rw hQ (P_srr_in h2 hs _)) (fun j _ => P_csm_in h2 hs j)
theorem R_lw_Q {M : ja_M} {b : Nat} {x : Int} (hQ : ja_Q M M b) : ja_Q M (R_lw M b x) b := by
  have hs := hQ.2.2.2.2.1
  unfold R_lw
  exact Q_rw hQ (P_ldr_in hs _)
theorem R_pkn_Q {M : ja_M} {b : Nat} {x : Int} (hQ : ja_Q M M b) (hO : ja_SO M (b + 1)) : ja_Q M (R_pkn M b x) b := by
  have hw := R_lw_Q (x := x) hQ
  have hn : 4 ≤ M (b + 1) 0 ∧ M (b + 1) 0 ≤ 16 := hO.1
  unfold R_pkn
  split
  · exact P_cpr_Q (Q_ct hw (by omega)) hn
  · split
    · exact P_str_Q (Q_ct hw (by omega)) hn
    · exact Q_pts hw (fun j _ => hw.2.2.2.2.1 _)
theorem R_tf_RO {mem : ja_M} {b : Nat} {t : Int} (h : ja_RO mem b t) (hn : mem (b + 9) 6 ≤ 999) : ja_RO (R_tf mem b (mem (b + 9) 6)) b t := by
  have h0 := h
  obtain ⟨g1, g2, g3, g4, g5, g6, g7, g8, g9, g10, g11, g12⟩ := h
  obtain ⟨p1, p2, p3, p4, p5, p6⟩ := g3
  unfold R_tf
  split
  · obtain ⟨s1, s2, s4, s6⟩ := @P_beg_s (C_co mem (b + 14)) (b + 9) 3
    obtain ⟨c7, c8, c2⟩ := @C_co_s mem (b + 14)
    have hM : ja_Q (P_beg (C_co mem (b + 14)) (b + 9) 3) (P_beg (C_co mem (b + 14)) (b + 9) 3) b := Q_refl (by omega) (fun j => by rw [P_beg_o ⟨by omega, by omega⟩, C_co_o (by omega)]; exact p4 j) (fun j => by rw [P_beg_o ⟨by omega, by omega⟩, C_co_o (by omega)]; exact p6 j)
    obtain ⟨q1, q2, q3, q4, q5, q6⟩ := P_con_Q (n := mem (b + 1) 0) (g := mem (b + 14) 7 + 1) hM (fun j => by rw [P_beg_o ⟨by omega, by omega⟩, C_co_o (by omega)]; exact p5 j)
    refine R_taken h0 hn (fun q a1 a2 a3 a4 a5 => by rw [q1 q a1 a2 (by omega) a5, P_beg_o ⟨a1, by omega⟩, C_co_o a5]) q3 (by rw [q2 2 (by omega), s2]) (by rw [q2 4 (by omega), s4, C_co_o (by omega)]) (by rw [q2 6 (by omega), s6, C_co_o (by omega)]) q4 q5 ?_ ?_ ?_
    · rw [q6 7 (by omega), P_beg_o ⟨by omega, by omega⟩, c7]
      omega
    · rw [q6 8 (by omega), P_beg_o ⟨by omega, by omega⟩, c8]
      split <;> omega
    · rw [q6 2 (by omega), P_beg_o ⟨by omega, by omega⟩, c2]
      omega
  · generalize (if F_st mem (b + 1) (b + 2) (mem (b + 9) 6) = 2 then (1 : Int) else 2) = kd
    obtain ⟨s1, s2, s4, s6⟩ := @P_beg_s (C_kn mem (b + 14) kd) (b + 9) kd
    obtain ⟨c7, c8, c2⟩ := @C_kn_s mem (b + 14) kd
    have hM : ja_Q (P_beg (C_kn mem (b + 14) kd) (b + 9) kd) (P_beg (C_kn mem (b + 14) kd) (b + 9) kd) b := Q_refl (by omega) (fun j => by rw [P_beg_o ⟨by omega, by omega⟩, C_kn_o (by omega)]; exact p4 j) (fun j => by rw [P_beg_o ⟨by omega, by omega⟩, C_kn_o (by omega)]; exact p6 j)
    obtain ⟨q1, q2, q3, q4, q5, q6⟩ := R_pkn_Q (x := mem (b + 9) 6) hM (ja_SO_c (by rw [P_beg_o ⟨by omega, by omega⟩, C_kn_o (by omega)]) g1)
    refine R_taken h0 hn (fun q a1 a2 a3 a4 a5 => by rw [q1 q a1 a2 (by omega) a5, P_beg_o ⟨a1, by omega⟩, C_kn_o a5]) q3 (by rw [q2 2 (by omega), s2]) (by rw [q2 4 (by omega), s4, C_kn_o (by omega)]) (by rw [q2 6 (by omega), s6, C_kn_o (by omega)]) q4 q5 ?_ ?_ ?_
    · rw [q6 7 (by omega), P_beg_o ⟨by omega, by omega⟩, c7]
      omega
    · rw [q6 8 (by omega), P_beg_o ⟨by omega, by omega⟩, c8]
      omega
    · rw [q6 2 (by omega), P_beg_o ⟨by omega, by omega⟩, c2]
      omega
theorem P_out_o {mem : ja_M} {a q : Nat} (h : q ≠ a ∧ q ≠ a + 2) : P_out mem a q = mem q := by
  unfold P_out
  split
  · rw [ja_up_row h.1, ja_up_row h.1, ja_up_row h.2]
  · rfl
theorem P_out_PO {mem : ja_M} {a : Nat} (h : ja_PO mem a) (h4 : mem a 4 ≤ 999999) : ja_PO (P_out mem a) a ∧ P_out mem a a 4 ≤ mem a 4 + 1 ∧ P_out mem a a 6 = mem a 6 := by
  have h0 := h
  obtain ⟨p1, p2, p3, p4, p5, p6⟩ := h
  unfold P_out
  split
  · have e1 : ∀ m z1 z2, ja_up (ja_up m a 4 z1) a 2 z2 a 1 = m a 1 := fun m z1 z2 => by rw [ja_up_j (by omega), ja_up_j (by omega)]
    refine ⟨⟨?_, ?_, ?_, fun j => ?_, fun j => ?_, fun j => ?_⟩, ?_, ?_⟩
    · rw [ja_up_s, e1, ja_up_a (by omega)]
      omega
    · rw [ja_up_j (by omega), ja_up_s]
      omega
    · rw [ja_up_j (by omega), ja_up_j (by omega), ja_up_a (by omega)]
      omega
    · rw [ja_up_a (by omega), ja_up_a (by omega), ja_up_a (by omega)]
      exact p4 j
    · rw [ja_up_a (by omega), ja_up_a (by omega)]
      by_cases hj : j = (mem a 4 % 256).toNat
      · subst hj
        rw [ja_up_s]
        exact p4 _
      · rw [ja_up_j hj]
        exact p5 j
    · rw [ja_up_a (by omega), ja_up_a (by omega), ja_up_a (by omega)]
      exact p6 j
    · rw [ja_up_j (by omega), ja_up_s]
      omega
    · rw [ja_up_j (by omega), ja_up_j (by omega), ja_up_a (by omega)]
  · exact ⟨h0, by omega, rfl⟩
/-- but for the outputs, that may be one more than the time -/
theorem R_pl_RO {mem : ja_M} {b : Nat} {t : Int} (h : ja_RO mem b t) (ht : t ≤ 900000) : ja_PO (R_pl mem b) (b + 9) ∧ R_pl mem b (b + 9) 4 ≤ mem b 6 + 1 ∧ (∃ M, ja_RO M b t ∧ M b = mem b ∧ R_pl mem b (b + 9) 6 = M (b + 9) 6 ∧ ∀ q, q ≠ b + 9 → q ≠ b + 11 → R_pl mem b q = M q) := by
  have h0 := h
  obtain ⟨g1, g2, g3, g4, g5, g6, g7, g8, g9, g10, g11, g12⟩ := h
  unfold R_pl
  split
  · have key : ∀ M, ja_RO M b t → M b = mem b → ja_PO (P_out M (b + 9)) (b + 9) ∧ P_out M (b + 9) (b + 9) 4 ≤ mem b 6 + 1 ∧ (∃ M', ja_RO M' b t ∧ M' b = mem b ∧ P_out M (b + 9) (b + 9) 6 = M' (b + 9) 6 ∧ ∀ q, q ≠ b + 9 → q ≠ b + 11 → P_out M (b + 9) q = M' q) := by
      intro M hM hMb
      have h9 : M (b + 9) 4 ≤ M b 6 := hM.2.2.2.2.2.2.2.2.1
      rw [hMb] at h9
      obtain ⟨o1, o2, o3⟩ := P_out_PO hM.2.2.1 (by omega)
      exact ⟨o1, by omega, M, hM, hMb, o3, fun q q1 q2 => P_out_o ⟨q1, by omega⟩⟩
    split
    · rename_i hc
      refine key _ (R_tf_RO h0 hc.2) ?_
      have hb : R_tf mem b (mem (b + 9) 6) b = mem b := by
        obtain ⟨p1, p2, p3, p4, p5, p6⟩ := g3
        unfold R_tf
        split
        · obtain ⟨s1, s2, s4, s6⟩ := @P_beg_s (C_co mem (b + 14)) (b + 9) 3
          have hM : ja_Q (P_beg (C_co mem (b + 14)) (b + 9) 3) (P_beg (C_co mem (b + 14)) (b + 9) 3) b := Q_refl (by omega) (fun j => by rw [P_beg_o ⟨by omega, by omega⟩, C_co_o (by omega)]; exact p4 j) (fun j => by rw [P_beg_o ⟨by omega, by omega⟩, C_co_o (by omega)]; exact p6 j)
          rw [(P_con_Q (n := mem (b + 1) 0) (g := mem (b + 14) 7 + 1) hM (fun j => by rw [P_beg_o ⟨by omega, by omega⟩, C_co_o (by omega)]; exact p5 j)).1 b (by omega) (by omega) (by omega) (by omega), P_beg_o ⟨by omega, by omega⟩, C_co_o (by omega)]
        · generalize (if F_st mem (b + 1) (b + 2) (mem (b + 9) 6) = 2 then (1 : Int) else 2) = kd
          obtain ⟨s1, s2, s4, s6⟩ := @P_beg_s (C_kn mem (b + 14) kd) (b + 9) kd
          have hM : ja_Q (P_beg (C_kn mem (b + 14) kd) (b + 9) kd) (P_beg (C_kn mem (b + 14) kd) (b + 9) kd) b := Q_refl (by omega) (fun j => by rw [P_beg_o ⟨by omega, by omega⟩, C_kn_o (by omega)]; exact p4 j) (fun j => by rw [P_beg_o ⟨by omega, by omega⟩, C_kn_o (by omega)]; exact p6 j)
          rw [(R_pkn_Q (x := mem (b + 9) 6) hM (ja_SO_c (by rw [P_beg_o ⟨by omega, by omega⟩, C_kn_o (by omega)]) g1)).1 b (by omega) (by omega) (by omega) (by omega), P_beg_o ⟨by omega, by omega⟩, C_kn_o (by omega)]
      exact hb
    · exact key mem h0 rfl
  · exact ⟨g3, by omega, mem, h0, rfl, rfl, fun _ _ _ => rfl⟩
theorem R_tk_RO {mem : ja_M} {b : Nat} {t : Int} (h : ja_RO mem b t) (ht : t ≤ 900000) : ja_RO (R_tk mem b) b (t + 1) := by
  have hd := R_due_RO h ht
  obtain ⟨hP, h4, M, hM, hMb, h6, ho⟩ := R_pl_RO hd ht
  obtain ⟨g1, g2, g3, g4, g5, g6, g7, g8, g9, g10, g11, g12⟩ := hM
  have hb := ho b (by omega) (by omega)
  have hr : ∀ q, q ≠ b → R_tk mem b q = R_pl (R_due mem b) b q := fun q hq => by
    unfold R_tk
    exact ja_up_row hq
  have hx : ∀ q, q ≠ b → q ≠ b + 9 → q ≠ b + 11 → R_tk mem b q = M q := fun q a1 a2 a3 => by rw [hr q a1, ho q a2 a3]
  have e6 : R_tk mem b b 6 = M b 6 + 1 := by
    unfold R_tk
    rw [ja_up_s, hb]
  have ej : ∀ j, j ≠ 6 → R_tk mem b b j = M b j := fun j hj => by
    unfold R_tk
    rw [ja_up_j hj, hb]
  rw [← hMb] at h4
  refine ⟨ja_SO_c (hx _ (by omega) (by omega) (by omega)) g1, ja_TO_c (hx _ (by omega) (by omega) (by omega)) (hx _ (by omega) (by omega) (by omega)) (hx _ (by omega) (by omega) (by omega)) g2, ja_PO_c (hr _ (by omega)) (hr _ (by omega)) (hr _ (by omega)) (hr _ (by omega)) hP, ja_AO_c (fun q q1 q2 => hx q (by omega) (by omega) (by omega)) g4, ja_VO_c (hx _ (by omega) (by omega) (by omega)) (fun q q1 q2 => hx q (by omega) (by omega) (by omega)) g5, by rw [e6]; omega, by rw [ej 7 (by omega)]; exact g7, by rw [ej 8 (by omega)]; omega, by rw [e6, hr (b + 9) (by omega)]; exact h4, by rw [hx (b + 14) (by omega) (by omega) (by omega), hr (b + 9) (by omega), h6]; exact g10, by rw [hx (b + 14) (by omega) (by omega) (by omega), hr (b + 9) (by omega), h6]; exact g11, by rw [hx (b + 14) (by omega) (by omega) (by omega), hr (b + 9) (by omega), h6]; exact g12⟩
end
section
theorem T_spr_in {mem : ja_M} {a : Nat} {q : Int} (h : ja_TO mem a) : -2000000 ≤ T_spr mem a q ∧ T_spr mem a q ≤ 2000000 := by
  have h1 := h.2.2.2 ((q * mem a 2 + 99) / 100 - 1).toNat
  have h2 := h.2.2.2 0
  obtain ⟨a1, a2⟩ := h1
  obtain ⟨b1, b2⟩ := h2
  unfold T_spr
  split <;> omega
theorem R_tg_in {mem : ja_M} {b : Nat} (hS : ja_SO mem (b + 1)) (hT : ja_TO mem (b + 6)) : -2000000 ≤ R_tg mem b ∧ R_tg mem b ≤ 2000100 := by
  have h := @T_spr_in mem (b + 6) (mem (b + 1) 6) hT
  have h7 := hS.2.2.2.2.2.2.2.1
  unfold R_tg
  omega
theorem R_lv_in {mem : ja_M} {b : Nat} {x : Int} (hS : ja_SO mem (b + 1)) (hx : 0 ≤ x ∧ x ≤ 1000) : 0 ≤ R_lv mem b x ∧ R_lv mem b x ≤ 16000 := by
  have h := @F_fr_le mem (b + 1) (b + 2) (1000 - x).toNat x
  have h0 := hS.1
  have := ja_mulb (by omega : 0 ≤ mem (b + 1) 0) h0.2 (by omega : 0 ≤ F_fr mem (b + 1) (b + 2) x (1000 - x).toNat - x) (by omega : F_fr mem (b + 1) (b + 2) x (1000 - x).toNat - x ≤ 1000)
  unfold R_lv
  omega
theorem R_lw_PO {mem : ja_M} {b : Nat} {x : Int} (h : ja_PO mem (b + 9)) : ja_PO (R_lw mem b x) (b + 9) := by
  obtain ⟨p1, p2, p3, p4, p5, p6⟩ := h
  unfold R_lw
  refine ⟨?_, ?_, ?_, fun j => ?_, fun j => ?_, fun j => ?_⟩
  · rw [ja_rw_n (by omega)]
    exact p1
  · rw [ja_rw_n (by omega)]
    exact p2
  · rw [ja_rw_n (by omega)]
    exact p3
  · rw [ja_rw_n (by omega)]
    exact p4 j
  · rw [ja_rw_n (by omega)]
    exact p5 j
  · rw [ja_rw_s]
    exact P_ldr_in p6 _ j
theorem P_beg_PO {mem : ja_M} {a : Nat} {k : Int} (h : ja_PO mem a) (h6 : mem a 6 ≤ 999) : ja_PO (P_beg mem a k) a := by
  obtain ⟨p1, p2, p3, p4, p5, p6⟩ := h
  obtain ⟨s1, s2, s4, s6⟩ := @P_beg_s mem a k
  refine ⟨by omega, by omega, by omega, fun j => ?_, fun j => ?_, fun j => ?_⟩
  · rw [P_beg_o ⟨by omega, by omega⟩]
    exact p4 j
  · rw [P_beg_o ⟨by omega, by omega⟩]
    exact p5 j
  · rw [P_beg_o ⟨by omega, by omega⟩]
    exact p6 j
end
section
-- copies
def S_cp (mem : ja_M) (a o : Nat) : ja_M := ja_up (ja_up (ja_up (ja_up (ja_up (ja_up (ja_up (ja_up (ja_up mem a 0 (mem o 0)) a 1 (mem o 1)) a 2 (mem o 2)) a 3 (mem o 3)) a 4 (mem o 4)) a 5 (mem o 5)) a 6 (mem o 6)) a 7 (mem o 7)) a 8 (mem o 8)
def F_cpy (mem : ja_M) (f o : Nat) : ja_M := ja_cp (ja_cp (ja_cp mem (o + 1) (f + 1) 0 0 250) (o + 2) (f + 2) 0 0 250) (o + 3) (f + 3) 0 0 250
def R_c1 (mem : ja_M) (b o : Nat) : ja_M := S_cp mem (b + 1) (o + 1)
def R_c2 (mem : ja_M) (b o : Nat) : ja_M := F_cpy (R_c1 mem b o) (b + 2) (o + 2)
def R_c3 (mem : ja_M) (b o : Nat) : ja_M := T_cp (R_c2 mem b o) (b + 6) (o + 6)
def R_c4 (mem : ja_M) (b o : Nat) : ja_M := P_cp2 (R_c3 mem b o) (b + 9) (o + 9)
def R_c5 (mem : ja_M) (b o : Nat) : ja_M := C_cp (R_c4 mem b o) (b + 14) (o + 14)
def R_c6 (mem : ja_M) (b o : Nat) : ja_M := A_all (ja_up (R_c5 mem b o) (b + 15) 4 0) (b + 15) (o + 15) ((R_c5 mem b o) (o + 15) 4).toNat
def R_cp (mem : ja_M) (b o : Nat) : ja_M := ja_up (ja_up (ja_up (R_c6 mem b o) b 6 (R_c6 mem b o o 6)) b 7 (R_c6 mem b o o 7)) b 8 (R_c6 mem b o o 8)
theorem S_cp_o {mem : ja_M} {a o q : Nat} (h : q ≠ a) : S_cp mem a o q = mem q := by
  unfold S_cp
  rw [ja_up_row h, ja_up_row h, ja_up_row h, ja_up_row h, ja_up_row h, ja_up_row h, ja_up_row h, ja_up_row h, ja_up_row h]
theorem C_cp_o {mem : ja_M} {a o q : Nat} (h : q ≠ a) : C_cp mem a o q = mem q := by
  unfold C_cp
  rw [ja_up_row h, ja_up_row h, ja_up_row h, ja_up_row h, ja_up_row h, ja_up_row h, ja_up_row h, ja_up_row h, ja_up_row h]
theorem S_cp_s {mem : ja_M} {a o j : Nat} (h : j < 9) : S_cp mem a o a j = mem o j := by
  rcases (show j = 0 ∨ j = 1 ∨ j = 2 ∨ j = 3 ∨ j = 4 ∨ j = 5 ∨ j = 6 ∨ j = 7 ∨ j = 8 by omega) with rfl | rfl | rfl | rfl | rfl | rfl | rfl | rfl | rfl <;> simp [S_cp, ja_up]
theorem C_cp_s {mem : ja_M} {a o j : Nat} (h : j < 9) : C_cp mem a o a j = mem o j := by
  rcases (show j = 0 ∨ j = 1 ∨ j = 2 ∨ j = 3 ∨ j = 4 ∨ j = 5 ∨ j = 6 ∨ j = 7 ∨ j = 8 by omega) with rfl | rfl | rfl | rfl | rfl | rfl | rfl | rfl | rfl <;> simp [C_cp, ja_up]
theorem F_cpy_o {mem : ja_M} {f o q : Nat} (h : q < f + 1 ∨ f + 4 ≤ q) : F_cpy mem f o q = mem q := by
  unfold F_cpy
  rw [ja_cp_o _ (by omega), ja_cp_o _ (by omega), ja_cp_o _ (by omega)]
theorem T_cp_o {mem : ja_M} {a o q : Nat} (h : q < a ∨ a + 3 ≤ q) : T_cp mem a o q = mem q := by
  unfold T_cp
  rw [ja_up_row (by omega), ja_up_row (by omega), ja_cp_o _ (by omega), ja_cp_o _ (by omega)]
theorem P_cp2_o {mem : ja_M} {a o q : Nat} (h : q < a ∨ a + 4 ≤ q) : P_cp2 mem a o q = mem q := by
  unfold P_cp2
  rw [ja_up_row (by omega), ja_cp_o _ (by omega), ja_up_row (by omega), ja_cp_o _ (by omega), ja_up_row (by omega), ja_up_row (by omega), ja_cp_o _ (by omega)]
theorem ja_cp_P {mem : ja_M} {a0 a1 k : Nat} {P : Int → Prop} (h0 : ∀ j, P (mem a0 j)) (h1 : ∀ j, P (mem a1 j)) (j : Nat) : P (ja_cp mem a0 a1 0 0 k a1 j) := by
  unfold ja_cp
  split
  · exact h0 _
  · exact h1 j
theorem R_c5_o {mem : ja_M} {b o q : Nat} (h : q < b + 1 ∨ b + 15 ≤ q) : R_c5 mem b o q = mem q := by
  unfold R_c5 R_c4 R_c3 R_c2 R_c1
  rw [C_cp_o (by omega), P_cp2_o (by omega), T_cp_o (by omega), F_cpy_o (by omega), S_cp_o (by omega)]
theorem R_c6_o {mem : ja_M} {b o q : Nat} (h : q < b + 1 ∨ b + 20 ≤ q) : R_c6 mem b o q = mem q := by
  unfold R_c6
  rw [A_all_o (by omega), ja_up_row (by omega), R_c5_o (by omega)]
theorem R_cp_o {mem : ja_M} {b o q : Nat} (h : q < b ∨ b + 20 ≤ q) : R_cp mem b o q = mem q := by
  unfold R_cp
  rw [ja_up_row (by omega), ja_up_row (by omega), ja_up_row (by omega), R_c6_o (by omega)]
theorem A_all_AO {mem : ja_M} {a o : Nat} (h : ja_AO mem a) (ho : ja_AO mem o) : ∀ k, ja_AO (A_all mem a o k) a
  | 0 => h
  | k + 1 => A_add_AO (A_all_AO h ho k) (ho.2.1 k) (ho.2.2.1 k) (ho.2.2.2.1 k) (ho.2.2.2.2 k)
/-- a copy from the empty: the first k entries -/
theorem A_all_is {mem : ja_M} {a o : Nat} (h0 : mem a 4 = 0) (hao : a + 5 ≤ o ∨ o + 5 ≤ a) : ∀ k : Nat, k ≤ 24 → A_all mem a o k a 4 = k ∧ ∀ j, j < k → A_all mem a o k (a + 1) j = mem (o + 1) j ∧ A_all mem a o k (a + 2) j = mem (o + 2) j ∧ A_all mem a o k (a + 3) j = mem (o + 3) j ∧ A_all mem a o k (a + 4) j = mem (o + 4) j
  | 0, _ => ⟨h0, fun j hj => by omega⟩
  | k + 1, hk => by
    obtain ⟨ih, ij⟩ := A_all_is h0 hao k (by omega)
    have hlt : A_all mem a o k a 4 < 24 := by omega
    have hkn : (A_all mem a o k a 4).toNat = k := by omega
    simp only [A_all]
    unfold A_add
    rw [if_pos hlt, hkn]
    refine ⟨by rw [ja_up_s, ih]; omega, fun j hj => ?_⟩
    by_cases hjk : j = k
    · subst hjk
      refine ⟨?_, ?_, ?_, ?_⟩
      · rw [ja_up_a (by omega), ja_up_a (by omega), ja_up_a (by omega), ja_up_a (by omega), ja_up_s]
      · rw [ja_up_a (by omega), ja_up_a (by omega), ja_up_a (by omega), ja_up_s]
      · rw [ja_up_a (by omega), ja_up_a (by omega), ja_up_s]
      · rw [ja_up_a (by omega), ja_up_s]
    · obtain ⟨e1, e2, e3, e4⟩ := ij j (by omega)
      refine ⟨?_, ?_, ?_, ?_⟩
      · rw [ja_up_a (by omega), ja_up_a (by omega), ja_up_a (by omega), ja_up_a (by omega), ja_up_j hjk]
        exact e1
      · rw [ja_up_a (by omega), ja_up_a (by omega), ja_up_a (by omega), ja_up_j hjk, ja_up_a (by omega)]
        exact e2
      · rw [ja_up_a (by omega), ja_up_a (by omega), ja_up_j hjk, ja_up_a (by omega), ja_up_a (by omega)]
        exact e3
      · rw [ja_up_a (by omega), ja_up_j hjk, ja_up_a (by omega), ja_up_a (by omega), ja_up_a (by omega)]
        exact e4
theorem R_cp_RO {mem : ja_M} {b o : Nat} {t t' : Int} (h : ja_RO mem o t) (hb : ja_RO mem b t') (hbo : b + 20 ≤ o ∨ o + 20 ≤ b) : ja_RO (R_cp mem b o) b t := by
  obtain ⟨g1, g2, g3, g4, g5, g6, g7, g8, g9, g10, g11, g12⟩ := h
  obtain ⟨f1, f2, f3, f4, f5, -⟩ := hb
  obtain ⟨p1, p2, p3, p4, p5, p6⟩ := g3
  obtain ⟨q1, q2, q3, q4, q5, q6⟩ := f3
  obtain ⟨t2, t3, t4, t5⟩ := g2
  obtain ⟨u2, u3, u4, u5⟩ := f2
  -- rows of the copy
  have hx : ∀ q, q ≠ b → q < b + 15 → R_cp mem b o q = R_c5 mem b o q := fun q a1 a2 => by
    unfold R_cp R_c6
    rw [ja_up_row a1, ja_up_row a1, ja_up_row a1, A_all_o (by omega), ja_up_row (by omega)]
  have r1 : R_cp mem b o (b + 1) = S_cp mem (b + 1) (o + 1) (b + 1) := by
    rw [hx _ (by omega) (by omega)]
    unfold R_c5 R_c4 R_c3 R_c2 R_c1
    rw [C_cp_o (by omega), P_cp2_o (by omega), T_cp_o (by omega), F_cpy_o (by omega)]
  have o2 : ∀ q, q ≠ b + 1 → (q < b + 3 ∨ b + 6 ≤ q) → R_c2 mem b o q = mem q := fun q a1 a2 => by
    unfold R_c2 R_c1
    rw [F_cpy_o (by omega), S_cp_o a1]
  have r6 : ∀ q, b + 6 ≤ q → q < b + 9 → R_cp mem b o q = R_c3 mem b o q := fun q a1 a2 => by
    rw [hx _ (by omega) (by omega)]
    unfold R_c5 R_c4
    rw [C_cp_o (by omega), P_cp2_o (by omega)]
  have o3 : ∀ q, (q < b + 1 ∨ b + 9 ≤ q) → R_c3 mem b o q = mem q := fun q a1 => by
    unfold R_c3
    rw [T_cp_o (by omega), o2 q (by omega) (by omega)]
  have r9 : ∀ q, b + 9 ≤ q → q < b + 14 → R_cp mem b o q = R_c4 mem b o q := fun q a1 a2 => by
    rw [hx _ (by omega) (by omega)]
    unfold R_c5
    rw [C_cp_o (by omega)]
  have o4 : ∀ q, (q < b + 1 ∨ b + 14 ≤ q) → R_c4 mem b o q = mem q := fun q a1 => by
    unfold R_c4
    rw [P_cp2_o (by omega), o3 q (by omega)]
  have c14 : ∀ j, j < 9 → R_cp mem b o (b + 14) j = mem (o + 14) j := fun j hj => by
    rw [hx _ (by omega) (by omega)]
    unfold R_c5
    rw [C_cp_s hj, o4 _ (by omega)]
  have s1 : ∀ j, j < 9 → R_cp mem b o (b + 1) j = mem (o + 1) j := fun j hj => by rw [r1, S_cp_s hj]
  have e4 : R_c4 mem b o (b + 9) 1 = mem (o + 9) 1 ∧ R_c4 mem b o (b + 9) 2 = mem (o + 9) 2 ∧ R_c4 mem b o (b + 9) 4 = mem (o + 9) 4 ∧ R_c4 mem b o (b + 9) 6 = mem (o + 9) 6 := by
    unfold R_c4 P_cp2
    rw [o3 (o + 9) (by omega)]
    refine ⟨?_, ?_, ?_, ?_⟩
    · rw [ja_up_j (by omega), ja_cp_o _ (by omega), ja_up_j (by omega), ja_cp_o _ (by omega), ja_up_j (by omega), ja_up_s]
    · rw [ja_up_j (by omega), ja_cp_o _ (by omega), ja_up_j (by omega), ja_cp_o _ (by omega), ja_up_s]
    · rw [ja_up_j (by omega), ja_cp_o _ (by omega), ja_up_s]
    · rw [ja_up_s]
  obtain ⟨k1, k2, k4, k6⟩ := e4
  have rb : ∀ j, (j = 6 ∨ j = 7 ∨ j = 8) → R_cp mem b o b j = mem o j := fun j hj => by
    unfold R_cp
    rw [R_c6_o (show o < b + 1 ∨ b + 20 ≤ o by omega)]
    rcases hj with rfl | rfl | rfl
    · rw [ja_up_j (by omega), ja_up_j (by omega), ja_up_s]
    · rw [ja_up_j (by omega), ja_up_s]
    · rw [ja_up_s]
  have ha : ∀ q, b + 15 ≤ q → R_cp mem b o q = R_c6 mem b o q := fun q a1 => by
    unfold R_cp
    rw [ja_up_row (by omega), ja_up_row (by omega), ja_up_row (by omega)]
  have m5 : ∀ q, q ≠ b + 15 → (q < b + 1 ∨ b + 15 ≤ q) → ja_up (R_c5 mem b o) (b + 15) 4 0 q = mem q := fun q a1 a2 => by rw [ja_up_row a1, R_c5_o (by omega)]
  have hsz : (R_c5 mem b o) (o + 15) 4 = mem (o + 15) 4 := by rw [R_c5_o (by omega)]
  have hzz := g4.1
  have hAb : ja_AO (ja_up (R_c5 mem b o) (b + 15) 4 0) (b + 15) := ⟨by rw [ja_up_s]; omega, fun j => by rw [m5 _ (by omega) (by omega)]; exact f4.2.1 j, fun j => by rw [m5 _ (by omega) (by omega)]; exact f4.2.2.1 j, fun j => by rw [m5 _ (by omega) (by omega)]; exact f4.2.2.2.1 j, fun j => by rw [m5 _ (by omega) (by omega)]; exact f4.2.2.2.2 j⟩
  have hAo : ja_AO (ja_up (R_c5 mem b o) (b + 15) 4 0) (o + 15) := ja_AO_c (fun q a1 a2 => m5 q (by omega) (by omega)) g4
  have hIs := A_all_is (mem := ja_up (R_c5 mem b o) (b + 15) 4 0) (a := b + 15) (o := o + 15) (by rw [ja_up_s]) (by omega) (mem (o + 15) 4).toNat (by omega)
  have hA6 : R_c6 mem b o = A_all (ja_up (R_c5 mem b o) (b + 15) 4 0) (b + 15) (o + 15) (mem (o + 15) 4).toNat := by
    unfold R_c6
    rw [hsz]
  obtain ⟨i4, ij⟩ := hIs
  refine ⟨?_, ⟨?_, ?_, fun j => ?_, fun j => ?_⟩, ⟨?_, ?_, ?_, fun j => ?_, fun j => ?_, fun j => ?_⟩, ?_, ?_, by rw [rb 6 (by omega)]; exact g6, by rw [rb 7 (by omega)]; exact g7, by rw [rb 8 (by omega)]; exact g8, ?_, ?_, ?_, ?_⟩
  · unfold ja_SO
    rw [s1 0 (by omega), s1 1 (by omega), s1 2 (by omega), s1 3 (by omega), s1 4 (by omega), s1 5 (by omega), s1 6 (by omega), s1 7 (by omega), s1 8 (by omega)]
    exact g1
  · rw [r6 _ (by omega) (by omega)]
    unfold R_c3 T_cp
    rw [ja_up_j (by omega), ja_up_s, o2 _ (by omega) (by omega)]
    exact t2
  · rw [r6 _ (by omega) (by omega)]
    unfold R_c3 T_cp
    rw [ja_up_s, o2 _ (by omega) (by omega)]
    exact t3
  · rw [r6 _ (by omega) (by omega)]
    unfold R_c3 T_cp
    rw [ja_up_a (by omega), ja_up_a (by omega), ja_cp_o _ (by omega)]
    exact ja_cp_P (P := ja_sm) (fun j => by rw [o2 _ (by omega) (by omega)]; exact t4 j) (fun j => by rw [o2 _ (by omega) (by omega)]; exact u4 j) j
  · rw [r6 _ (by omega) (by omega)]
    unfold R_c3 T_cp
    rw [ja_up_a (by omega), ja_up_a (by omega)]
    exact ja_cp_P (P := ja_sm) (fun j => by rw [ja_cp_o _ (by omega), o2 _ (by omega) (by omega)]; exact t5 j) (fun j => by rw [ja_cp_o _ (by omega), o2 _ (by omega) (by omega)]; exact u5 j) j
  · rw [r9 _ (by omega) (by omega), k1, k2]
    exact p1
  · rw [r9 _ (by omega) (by omega), k4]
    exact p2
  · rw [r9 _ (by omega) (by omega), k6]
    exact p3
  · rw [r9 _ (by omega) (by omega)]
    unfold R_c4 P_cp2
    rw [ja_up_a (by omega), ja_cp_o _ (by omega), ja_up_a (by omega), ja_cp_o _ (by omega), ja_up_a (by omega), ja_up_a (by omega)]
    exact ja_cp_P (P := ja_sp) (fun j => by rw [o3 _ (by omega)]; exact p4 j) (fun j => by rw [o3 _ (by omega)]; exact q4 j) j
  · rw [r9 _ (by omega) (by omega)]
    unfold R_c4 P_cp2
    rw [ja_up_a (by omega), ja_cp_o _ (by omega), ja_up_a (by omega)]
    exact ja_cp_P (P := ja_sp) (fun j => by rw [ja_up_a (by omega), ja_up_a (by omega), ja_cp_o _ (by omega), o3 _ (by omega)]; exact p5 j) (fun j => by rw [ja_up_a (by omega), ja_up_a (by omega), ja_cp_o _ (by omega), o3 _ (by omega)]; exact q5 j) j
  · rw [r9 _ (by omega) (by omega)]
    unfold R_c4 P_cp2
    rw [ja_up_a (by omega), ja_cp_o _ (by omega), ja_up_a (by omega), ja_cp_o _ (by omega), ja_up_a (by omega), ja_up_a (by omega), ja_cp_o _ (by omega), o3 _ (by omega)]
    exact q6 j
  · exact ja_AO_c (fun q a1 a2 => by rw [ha q (by omega), hA6]) (A_all_AO hAb hAo _)
  · intro j hj
    rw [ha _ (by omega), hA6, i4] at hj
    obtain ⟨e1, e2, e3, e4⟩ := ij j (by omega)
    rw [ha _ (by omega), ha _ (by omega), ha _ (by omega), hA6, e1, e2, e3, m5 _ (by omega) (by omega), m5 _ (by omega) (by omega), m5 _ (by omega) (by omega)]
    have e5 : ∀ r k i, ja_hasP (R_cp mem b o) (b + 1) r k i = ja_hasP mem (o + 1) r k i := fun r k i => by simp only [ja_hasP, ja_hasB, ja_cells, s1 3 (by omega), s1 4 (by omega)]
    rw [e5]
    exact g5 j (by omega)
  · rw [r9 _ (by omega) (by omega), k4, rb 6 (by omega)]
    exact g9
  · rw [c14 7 (by omega), r9 _ (by omega) (by omega), k6]
    exact g10
  · rw [c14 8 (by omega), r9 _ (by omega) (by omega), k6]
    exact g11
  · rw [c14 2 (by omega), r9 _ (by omega) (by omega), k6]
    exact g12
end
section
theorem ja_b_0 {p : Prop} [Decidable p] : ja_b p = 0 ↔ ¬ p := by
  unfold ja_b
  by_cases h : p
  · rw [if_pos h]
    exact ⟨fun q => absurd q (by decide), fun q => absurd h q⟩
  · rw [if_neg h]
    exact ⟨fun _ => h, fun _ => rfl⟩
theorem ja_b_r {p : Prop} [Decidable p] : 0 ≤ ja_b p ∧ ja_b p ≤ 1 := by
  unfold ja_b
  by_cases h : p
  · rw [if_pos h]
    omega
  · rw [if_neg h]
    omega
-- the whole object at y: receiver y + 1, forecast y + 21, slots y + 41, text y + 42, described y + 44
def ja_LB (lay : ja_Y) (y : Nat) (sl : Nat → Option Nat) : Prop := lay y = some (.inl (8, [some (.ref (y + 1)), some (.ref (y + 21)), some (.ref (y + 41)), some (.ref (y + 42)), some (.ref (y + 44))])) ∧ ja_LR lay (y + 1) ∧ ja_LR lay (y + 21) ∧ lay (y + 41) = some (.inr (3, 2, sl)) ∧ ja_LX lay (y + 42) ∧ ja_LA lay (y + 44) ∧ ∀ i o, i < 2 → sl i = some o → y + 49 ≤ o ∧ ja_LR lay o
theorem ja_LB_1 {lay : ja_Y} {y : Nat} {sl : Nat → Option Nat} (h : ja_LB lay y sl) : ja_LR lay (y + 1) := h.2.1
theorem ja_LB_21 {lay : ja_Y} {y : Nat} {sl : Nat → Option Nat} (h : ja_LB lay y sl) : ja_LR lay (y + 21) := h.2.2.1
theorem ja_LB_41 {lay : ja_Y} {y : Nat} {sl : Nat → Option Nat} (h : ja_LB lay y sl) : lay (y + 41) = some (.inr (3, 2, sl)) := h.2.2.2.1
theorem ja_LB_42 {lay : ja_Y} {y : Nat} {sl : Nat → Option Nat} (h : ja_LB lay y sl) : ja_LX lay (y + 42) := h.2.2.2.2.1
theorem ja_LB_44 {lay : ja_Y} {y : Nat} {sl : Nat → Option Nat} (h : ja_LB lay y sl) : ja_LA lay (y + 44) := h.2.2.2.2.2.1
/-- the text's ranges -/
def ja_HO (mem : ja_M) (x : Nat) : Prop := (0 ≤ mem x 1 ∧ mem x 1 ≤ 120) ∧ (∀ j, 0 ≤ mem (x + 1) j ∧ mem (x + 1) j ≤ 126) ∧ (0 ≤ mem x 5 ∧ mem x 5 ≤ 2) ∧ (0 ≤ mem x 6 ∧ mem x 6 ≤ 9999) ∧ (0 ≤ mem x 7 ∧ mem x 7 ≤ 9999)
def ja_BO (mem : ja_M) (y : Nat) (sl : Nat → Option Nat) (t : Int) : Prop := ja_RO mem (y + 1) t ∧ (∃ t', ja_RO mem (y + 21) t') ∧ ja_HO mem (y + 42) ∧ ja_AO mem (y + 44) ∧ ∀ i o, i < 2 → sl i = some o → ja_RO mem o t
def B_adv (mem : ja_M) (b : Nat) : Nat → ja_M
  | 0 => mem
  | k + 1 => R_tk (B_adv mem b k) b
theorem B_adv_RO {mem : ja_M} {b : Nat} {t : Int} (h : ja_RO mem b t) : ∀ k : Nat, t + k ≤ 900001 → ja_RO (B_adv mem b k) b (t + k)
  | 0, _ => by
    rw [show t + ((0 : Nat) : Int) = t by omega]
    exact h
  | k + 1, hk => by
    have ih := B_adv_RO h k (by omega)
    have := R_tk_RO ih (by omega)
    rw [show t + ((k + 1 : Nat) : Int) = t + k + 1 by omega]
    exact this
abbrev B_isF (x : Int) : Prop := 0 ≤ x ∧ x ≤ 999
/-- something has arrived, or is scheduled -/
abbrev B_bg (mem : ja_M) (y : Nat) : Prop := ¬ mem (y + 1) 7 = 0 ∨ 0 < mem (y + 1 + 15) 4
def B_gap (b : Nat) (c : Int) : Nat → Nat → ja_M → Int × ja_M
  | 0, _, m => (-1004, m)
  | r + 1, i, m => if c < R_tk m b (b + 14) 2 then ((i : Int), R_tk m b) else B_gap b c r (i + 1) (R_tk m b)
def B_fra (b : Nat) (x : Int) : Nat → Nat → ja_M → Int × ja_M
  | 0, _, m => (-1004, m)
  | r + 1, i, m => if x < R_tk m b (b + 9) 6 then ((i : Int), R_tk m b) else B_fra b x r (i + 1) (R_tk m b)
def B_cd : Nat → Int → Int → Int
  | 0, a, _ => a
  | k + 1, a, b => if b = 0 then a else B_cd k b (a % b)
def B_par (mem : ja_M) (s : Nat) (r k i p : Int) : Nat → Int
  | 0 => 0
  | j + 1 => if 999 < ja_cov mem s r k i j then B_par mem s r k i p j else (ja_I (B_par mem s r k i p j) ^^^ ja_I (ja_wave mem s (ja_cov mem s r k i j) p + 128)).toInt
theorem B_cd_in : ∀ (k : Nat) (a b : Int), 0 ≤ a → 0 ≤ b → 0 ≤ B_cd k a b ∧ (B_cd k a b ≤ a ∨ B_cd k a b ≤ b)
  | 0, a, b, ha, hb => by
    simp only [B_cd]
    omega
  | k + 1, a, b, ha, hb => by
    simp only [B_cd]
    split
    · omega
    · have h1 := Int.emod_nonneg a (show b ≠ 0 by omega)
      have h2 := Int.emod_lt_of_pos a (show 0 < b by omega)
      have := B_cd_in k b (a % b) hb h1
      omega
/-- ticksToFrame's end -/
abbrev ja_tf (lay : ja_Y) (mem : ja_M) (n y : Nat) (x : Int) : ja_P := ja_rd lay (if B_isF x then (if x < mem (y + 1 + 9) 6 then mem else (B_fra (y + 21) x 2000 0 (R_cp mem (y + 21) (y + 1))).2) else mem) n (some (.int (ja_I (if B_isF x then (if x < mem (y + 1 + 9) 6 then -1003 else (B_fra (y + 21) x 2000 0 (R_cp mem (y + 21) (y + 1))).1) else -1001))))
theorem HO_XO {mem : ja_M} {x o : Nat} (h : ja_HO mem x) (hxo : x ≠ o) : ja_XO (ja_up (ja_up mem o 4 0) x 2 0) x := by
  obtain ⟨h1, h2, h5, h6, h7⟩ := h
  unfold ja_XO
  rw [ja_up_s, ja_up_j (show (5 : Nat) ≠ 2 by omega), ja_up_j (show (6 : Nat) ≠ 2 by omega), ja_up_j (show (7 : Nat) ≠ 2 by omega), ja_up_a (show x ≠ o by omega), ja_up_a (show x ≠ o by omega), ja_up_a (show x ≠ o by omega)]
  exact ⟨by omega, Or.inl rfl, h5, h6, h7⟩
theorem AO_0 {mem : ja_M} {x o : Nat} (h : ja_AO mem o) (hxo : x < o ∨ o + 5 ≤ x) : ja_AO (ja_up (ja_up mem o 4 0) x 2 0) o := by
  obtain ⟨h0, h1, h2, h3, h4⟩ := h
  refine ⟨by rw [ja_up_a (by omega), ja_up_s]; omega, fun j => ?_, fun j => ?_, fun j => ?_, fun j => ?_⟩
  · rw [ja_up_a (by omega), ja_up_a (by omega)]
    exact h1 j
  · rw [ja_up_a (by omega), ja_up_a (by omega)]
    exact h2 j
  · rw [ja_up_a (by omega), ja_up_a (by omega)]
    exact h3 j
  · rw [ja_up_a (by omega), ja_up_a (by omega)]
    exact h4 j
/-- the text's fault, and the memory behind the reading -/
def B_rd (mem : ja_M) (y : Nat) : Int × ja_M := X_lp (mem (y + 42 + 1)) (y + 42) (y + 44) (mem (y + 42) 1) (mem (y + 42) 1).toNat 0 (ja_up (ja_up mem (y + 44) 4 0) (y + 42) 2 0)
theorem X_fm_567 {mem : ja_M} {x o : Nat} {c : Int} (h : ja_XO mem x) (hxo : x < o ∨ o + 5 ≤ x) : (0 ≤ X_fm mem x o c x 5 ∧ X_fm mem x o c x 5 ≤ 2) ∧ (0 ≤ X_fm mem x o c x 6 ∧ X_fm mem x o c x 6 ≤ 9999) ∧ (0 ≤ X_fm mem x o c x 7 ∧ X_fm mem x o c x 7 ≤ 9999) := by
  by_cases h2 : mem x 2 = 0
  · have h3 : X_fm mem x o c = X_be mem x c := by rw [X_fm, if_pos h2]
    rw [h3]
    exact (X_be_XO h).2.2
  · by_cases hc : 48 ≤ c ∧ c ≤ 57
    · have h3 : X_fm mem x o c = ja_up (ja_up mem x 4 (10 * mem x 4 + c - 48)) x 3 (mem x 3 + 1) := by rw [X_fm, if_neg h2, if_pos hc]
      rw [h3, ja_up_j (show (5 : Nat) ≠ 3 by omega), ja_up_j (show (5 : Nat) ≠ 4 by omega), ja_up_j (show (6 : Nat) ≠ 3 by omega), ja_up_j (show (6 : Nat) ≠ 4 by omega), ja_up_j (show (7 : Nat) ≠ 3 by omega), ja_up_j (show (7 : Nat) ≠ 4 by omega)]
      exact h.2.2
    · by_cases hd : mem x 3 = 0 ∨ ¬ c = X_eon mem x
      · have h3 : X_fm mem x o c = mem := by rw [X_fm, if_neg h2, if_neg hc, if_pos hd]
        rw [h3]
        exact h.2.2
      · have h3 : X_fm mem x o c = X_en mem x o := by rw [X_fm, if_neg h2, if_neg hc, if_neg hd]
        rw [h3]
        exact (X_en_XO h h2 hxo).2.2
theorem X_lp_all {f : Nat → Int} {x o : Nat} {ln : Int} (hxo : x + 1 < o ∨ o + 5 ≤ x) : ∀ (r i : Nat) (m : ja_M), ja_XO m x → ja_AO m o → ja_AO (X_lp f x o ln r i m).2 o ∧ (∀ q, q ≠ x → (q < o ∨ o + 5 ≤ q) → (X_lp f x o ln r i m).2 q = m q) ∧ (X_lp f x o ln r i m).2 x 1 = m x 1 ∧ (0 ≤ (X_lp f x o ln r i m).2 x 5 ∧ (X_lp f x o ln r i m).2 x 5 ≤ 2) ∧ (0 ≤ (X_lp f x o ln r i m).2 x 6 ∧ (X_lp f x o ln r i m).2 x 6 ≤ 9999) ∧ (0 ≤ (X_lp f x o ln r i m).2 x 7 ∧ (X_lp f x o ln r i m).2 x 7 ≤ 9999)
  | 0, i, m, hX, hA => ⟨hA, fun _ _ _ => rfl, rfl, hX.2.2.1, hX.2.2.2.1, hX.2.2.2.2⟩
  | r + 1, i, m, hX, hA => by
    simp only [X_lp]
    split
    · exact ⟨X_fm_AO hX hA (by omega), fun q a b => X_fm_o ⟨a, b⟩, X_fm_1 (by omega), X_fm_567 hX (by omega)⟩
    · rename_i hb
      obtain ⟨i1, i2, i3, i4⟩ := X_lp_all (f := f) (ln := ln) hxo r (i + 1) (X_fm m x o (f i)) (X_fm_XO hX (by omega) hb) (X_fm_AO hX hA (by omega))
      exact ⟨i1, fun q a b => (i2 q a b).trans (X_fm_o ⟨a, b⟩), i3.trans (X_fm_1 (by omega)), i4⟩
theorem B_rd_all {mem : ja_M} {y : Nat} (hH : ja_HO mem (y + 42)) (hA : ja_AO mem (y + 44)) : ja_AO (B_rd mem y).2 (y + 44) ∧ ja_HO (B_rd mem y).2 (y + 42) ∧ ∀ q, (q < y + 42 ∨ y + 49 ≤ q) → (B_rd mem y).2 q = mem q := by
  obtain ⟨h1, h2, h3, h4, h5, h6⟩ := X_lp_all (f := mem (y + 42 + 1)) (x := y + 42) (o := y + 44) (ln := mem (y + 42) 1) (by omega) (mem (y + 42) 1).toNat 0 _ (HO_XO hH (by omega)) (AO_0 hA (by omega))
  refine ⟨h1, ⟨?_, fun j => ?_, h4, h5, h6⟩, fun q hq => ?_⟩
  · have e : (B_rd mem y).2 (y + 42) 1 = mem (y + 42) 1 := h3.trans (by rw [ja_up_j (by omega), ja_up_a (by omega)])
    rw [e]
    exact hH.1
  · have e : (B_rd mem y).2 (y + 42 + 1) = mem (y + 42 + 1) := (h2 _ (by omega) (by omega)).trans (by rw [ja_up_row (by omega), ja_up_row (by omega)])
    rw [e]
    exact hH.2.1 j
  · show (X_lp _ _ _ _ _ _ _).2 q = mem q
    rw [h2 _ (by omega) (by omega), ja_up_row (by omega), ja_up_row (by omega)]
/-- arrival i of the text names what exists, at a time to come -/
abbrev B_ca (m : ja_M) (y : Nat) (i : Nat) : Prop := m (y + 1) 6 < m (y + 44 + 4) i ∧ (if m (y + 44 + 1) i = 0 then B_isF (m (y + 44 + 2) i) else ja_hasP m (y + 1 + 1) (ja_b (m (y + 44 + 1) i = 1)) (m (y + 44 + 2) i) (m (y + 44 + 3) i))
def B_cas (m : ja_M) (y : Nat) : Nat → Nat → Int
  | 0, _ => 1
  | r + 1, i => if B_ca m y i then B_cas m y r (i + 1) else 0
def B_sc (mem : ja_M) (y : Nat) : Int × ja_M :=
  if (B_rd mem y).1 = -1004 then
    if B_cas (B_rd mem y).2 y ((B_rd mem y).2 (y + 44) 4).toNat 0 = 0 then (-1001, (B_rd mem y).2)
    else if 24 < (B_rd mem y).2 (y + 1 + 15) 4 + (B_rd mem y).2 (y + 44) 4 then (-1002, (B_rd mem y).2)
    else ((B_rd mem y).2 (y + 44) 4, A_all (B_rd mem y).2 (y + 1 + 15) (y + 44) ((B_rd mem y).2 (y + 44) 4).toNat)
  else (-1003, (B_rd mem y).2)
theorem ja_RO_all {mem mem' : ja_M} {b : Nat} {t : Int} (h : ∀ q, b ≤ q → q < b + 20 → mem' q = mem q) (hO : ja_RO mem b t) : ja_RO mem' b t := by
  have g := hO
  obtain ⟨g1, g2, g3, g4, g5, g6, g7, g8, g9, g10, g11, g12⟩ := hO
  have hb := h b (by omega) (by omega)
  exact ja_RO_c g (fun j _ _ => by rw [hb]) (by rw [hb]; exact g7) (by rw [hb]; exact g8) (h _ (by omega) (by omega)) (ja_TO_c (h _ (by omega) (by omega)) (h _ (by omega) (by omega)) (h _ (by omega) (by omega)) g2) (fun q q1 q2 => h _ (by omega) (by omega)) (fun j _ => by rw [h _ (by omega) (by omega)]) (fun q q1 q2 => h _ (by omega) (by omega))
theorem X_lp_in {f : Nat → Int} {x o : Nat} {ln : Int} (hl : 0 ≤ ln ∧ ln ≤ 120) : ∀ (r i : Nat) (m : ja_M), i + r ≤ 120 → -1004 ≤ (X_lp f x o ln r i m).1 ∧ (X_lp f x o ln r i m).1 ≤ 120
  | 0, i, m, _ => by
    simp only [X_lp]
    split <;> omega
  | r + 1, i, m, h => by
    simp only [X_lp]
    split
    · exact ⟨by omega, by omega⟩
    · exact X_lp_in hl r (i + 1) _ (by omega)
theorem B_rd_in {mem : ja_M} {y : Nat} (hH : ja_HO mem (y + 42)) : -1004 ≤ (B_rd mem y).1 ∧ (B_rd mem y).1 ≤ 120 := X_lp_in hH.1 _ 0 _ (by have := hH.1; omega)
end
