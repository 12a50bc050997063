-- rows of memory
theorem ja_up_x {mem : ja_M} {a j a' j' : Nat} {z : Int} (h : a' ≠ a ∨ j' ≠ j) : ja_up mem a j z a' j' = mem a' j' := by
  rcases h with h | h
  · exact ja_up_a h
  · exact ja_up_j h
theorem ja_nat (k : Nat) : Int.toNat (k : Int) = k := Int.toNat_natCast k
-- Counters
def C_kn (mem : ja_M) (a : Nat) (k : Int) : ja_M := ja_up (if k = 1 then ja_up mem a 0 (mem a 0 + 1) else ja_up mem a 1 (mem a 1 + 1)) a 7 0
def C_co (mem : ja_M) (a : Nat) : ja_M := ja_up (ja_up (ja_up mem a 2 (mem a 2 + 1)) a 7 (mem a 7 + 1)) a 8 (if mem a 8 < mem a 7 + 1 then mem a 7 + 1 else mem a 8)
def C_cp (mem : ja_M) (a o : Nat) : ja_M := ja_up (ja_up (ja_up (ja_up (ja_up (ja_up (ja_up (ja_up (ja_up mem a 0 (mem o 0)) a 1 (mem o 1)) a 2 (mem o 2)) a 3 (mem o 3)) a 4 (mem o 4)) a 5 (mem o 5)) a 6 (mem o 6)) a 7 (mem o 7)) a 8 (mem o 8)
-- Arrivals
def A_add (mem : ja_M) (a : Nat) (k m i t : Int) : ja_M := if mem a 4 < 24 then ja_up (ja_up (ja_up (ja_up (ja_up mem (a + 1) (mem a 4).toNat k) (a + 2) (mem a 4).toNat m) (a + 3) (mem a 4).toNat i) (a + 4) (mem a 4).toNat t) a 4 (mem a 4 + 1) else mem
theorem A_add_sz {mem : ja_M} {a : Nat} {k m i t : Int} (h : 0 ≤ mem a 4 ∧ mem a 4 ≤ 24) : 0 ≤ A_add mem a k m i t a 4 ∧ A_add mem a k m i t a 4 ≤ 24 := by
  unfold A_add
  split
  · rw [ja_up_s]
    omega
  · exact h
theorem A_add_o {mem : ja_M} {a q : Nat} {k m i t : Int} (h : q < a ∨ a + 5 ≤ q) : A_add mem a k m i t q = mem q := by
  unfold A_add
  split
  · funext j
    rw [ja_up_a (by omega), ja_up_a (by omega), ja_up_a (by omega), ja_up_a (by omega), ja_up_a (by omega)]
  · rfl
def A_all (mem : ja_M) (a o : Nat) : Nat → ja_M
  | 0 => mem
  | k + 1 => A_add (A_all mem a o k) a (mem (o + 1) k) (mem (o + 2) k) (mem (o + 3) k) (mem (o + 4) k)
theorem A_all_sz {mem : ja_M} {a o : Nat} (h : 0 ≤ mem a 4 ∧ mem a 4 ≤ 24) : ∀ k, 0 ≤ A_all mem a o k a 4 ∧ A_all mem a o k a 4 ≤ 24
  | 0 => h
  | k + 1 => A_add_sz (A_all_sz h k)
theorem A_all_o {mem : ja_M} {a o q : Nat} (h : q < a ∨ a + 5 ≤ q) : ∀ k, A_all mem a o k q = mem q
  | 0 => rfl
  | k + 1 => (A_add_o h).trans (A_all_o h k)
def A_rem (mem : ja_M) (a : Nat) (t : Int) : Nat → ja_M
  | 0 => ja_up mem a 4 0
  | k + 1 => if mem (a + 4) k = t then A_rem mem a t k else A_add (A_rem mem a t k) a (mem (a + 1) k) (mem (a + 2) k) (mem (a + 3) k) (mem (a + 4) k)
theorem A_rem_sz {mem : ja_M} {a : Nat} {t : Int} : ∀ k : Nat, k ≤ 24 → 0 ≤ A_rem mem a t k a 4 ∧ A_rem mem a t k a 4 ≤ k
  | 0, _ => by
    simp only [A_rem, ja_up_s]
    omega
  | k + 1, hk => by
    have h := @A_rem_sz mem a t k (by omega)
    simp only [A_rem]
    split
    · omega
    · unfold A_add
      split
      · rw [ja_up_s]
        omega
      · omega
theorem A_rem_k {mem : ja_M} {a : Nat} {t : Int} {c j : Nat} (hc : 1 ≤ c ∧ c ≤ 4) : ∀ k : Nat, k ≤ 24 → k ≤ j → A_rem mem a t k (a + c) j = mem (a + c) j
  | 0, _, _ => by
    simp only [A_rem]
    exact ja_up_a (by omega)
  | k + 1, hk, hj => by
    have h := @A_rem_k mem a t c j hc k (by omega) (by omega)
    have hs := @A_rem_sz mem a t k (by omega)
    simp only [A_rem]
    split
    · exact h
    · unfold A_add
      split
      · rw [ja_up_a (by omega), ja_up_x (by omega), ja_up_x (by omega), ja_up_x (by omega), ja_up_x (by omega)]
        exact h
      · exact h
-- Transits
def ja_rs (f : Nat → Int) (j : Nat) (z : Int) : Nat → Int := fun q => if q = j then z else f q
def ja_rw (mem : ja_M) (a : Nat) (f : Nat → Int) : ja_M := fun q => if q = a then f else mem q
theorem ja_rw_s (mem : ja_M) (a : Nat) (f : Nat → Int) : ja_rw mem a f a = f := by simp [ja_rw]
theorem ja_rw_n {mem : ja_M} {a q : Nat} {f : Nat → Int} (h : q ≠ a) : ja_rw mem a f q = mem q := by simp [ja_rw, h]
theorem ja_rw_up (mem : ja_M) (a j : Nat) (f : Nat → Int) (z : Int) : ja_up (ja_rw mem a f) a j z = ja_rw mem a (ja_rs f j z) := by
  funext q x
  unfold ja_up ja_rw ja_rs
  by_cases hq : q = a
  · simp [hq]
  · simp [hq]
theorem ja_rw_self (mem : ja_M) (a : Nat) : ja_rw mem a (mem a) = mem := by
  funext q
  unfold ja_rw
  by_cases hq : q = a
  · subst hq
    simp
  · simp [hq]
theorem ja_rw_rw (mem : ja_M) (a : Nat) (f g : Nat → Int) : ja_rw (ja_rw mem a f) a g = ja_rw mem a g := by
  funext q
  unfold ja_rw
  by_cases hq : q = a <;> simp [hq]
def T_ins (f : Nat → Int) (v : Int) : Nat → (Nat → Int)
  | 0 => ja_rs f 0 v
  | h + 1 => if v < f h then T_ins (ja_rs f (h + 1) (f h)) v h else ja_rs f (h + 1) v
theorem T_ins_in {v : Int} {P : Int → Prop} (hv : P v) : ∀ (h : Nat) (f : Nat → Int), (∀ j, P (f j)) → ∀ j, P (T_ins f v h j)
  | 0, f, hf, j => by
    simp only [T_ins, ja_rs]
    split
    · exact hv
    · exact hf j
  | h + 1, f, hf, j => by
    simp only [T_ins]
    split
    · refine T_ins_in hv h _ (fun q => ?_) j
      unfold ja_rs
      split
      · exact hf h
      · exact hf q
    · unfold ja_rs
      split
      · exact hv
      · exact hf j
def T_srt (f g : Nat → Int) : Nat → (Nat → Int)
  | 0 => g
  | k + 1 => T_ins (T_srt f g k) (f k) k
theorem T_cast0 : (((0 : Nat)) : Int).toNat = 0 := rfl
theorem T_srt_in {f g : Nat → Int} {P : Int → Prop} (hf : ∀ j, P (f j)) (hg : ∀ j, P (g j)) : ∀ k j, P (T_srt f g k j)
  | 0, j => hg j
  | k + 1, j => T_ins_in (hf k) k _ (T_srt_in hf hg k) j
def T_ct (mem : ja_M) (a : Nat) : Int := if mem a 2 + 1 < 16 then mem a 2 + 1 else 16
def T_add (mem : ja_M) (a : Nat) (v : Int) : ja_M := ja_rw (ja_up (ja_up (ja_up mem (a + 1) (mem a 3).toNat v) a 3 ((mem a 3 + 1) % 16)) a 2 (T_ct mem a)) (a + 2) (T_srt (ja_rs (mem (a + 1)) (mem a 3).toNat v) (mem (a + 2)) (T_ct mem a).toNat)
def T_spr (mem : ja_M) (a : Nat) (q : Int) : Int := if mem a 2 = 0 then 0 else mem (a + 2) ((q * mem a 2 + 99) / 100 - 1).toNat - mem (a + 2) 0
def T_cp (mem : ja_M) (a o : Nat) : ja_M := ja_up (ja_up (ja_cp (ja_cp mem (o + 1) (a + 1) 0 0 16) (o + 2) (a + 2) 0 0 16) a 2 (mem o 2)) a 3 (mem o 3)
def ja_sm (z : Int) : Prop := -1000000 ≤ z ∧ z ≤ 1000000
/-- the window's ranges -/
def ja_TO (mem : ja_M) (a : Nat) : Prop := (0 ≤ mem a 2 ∧ mem a 2 ≤ 16) ∧ (0 ≤ mem a 3 ∧ mem a 3 < 16) ∧ (∀ j, ja_sm (mem (a + 1) j)) ∧ ∀ j, ja_sm (mem (a + 2) j)
