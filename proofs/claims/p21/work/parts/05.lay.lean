-- the layout of the objects
def ja_nr : Nat → Option Nat := fun _ => none
abbrev ja_n9 : List (Option Value) := [none, none, none, none, none, none, none, none, none]
def ja_LS (lay : ja_Y) (a : Nat) : Prop := lay a = some (.inl (6, [none, none, none, none, none, none, none, none, none]))
def ja_LC (lay : ja_Y) (a : Nat) : Prop := lay a = some (.inl (2, [none, none, none, none, none, none, none, none, none]))
def ja_LF (lay : ja_Y) (a : Nat) : Prop := lay a = some (.inl (3, [some (.ref (a + 1)), some (.ref (a + 2)), some (.ref (a + 3))])) ∧ lay (a + 1) = some (.inr (1, 250, fun _ => none)) ∧ lay (a + 2) = some (.inr (1, 250, fun _ => none)) ∧ lay (a + 3) = some (.inr (0, 250, fun _ => none))
theorem ja_LF_1 {lay : ja_Y} {a : Nat} (h : ja_LF lay a) : lay (a + 1) = some (.inr (1, 250, fun _ => none)) := h.2.1
theorem ja_LF_2 {lay : ja_Y} {a : Nat} (h : ja_LF lay a) : lay (a + 2) = some (.inr (1, 250, fun _ => none)) := h.2.2.1
theorem ja_LF_3 {lay : ja_Y} {a : Nat} (h : ja_LF lay a) : lay (a + 3) = some (.inr (0, 250, fun _ => none)) := h.2.2.2
def ja_LT (lay : ja_Y) (a : Nat) : Prop := lay a = some (.inl (7, [some (.ref (a + 1)), some (.ref (a + 2)), none, none])) ∧ lay (a + 1) = some (.inr (0, 16, fun _ => none)) ∧ lay (a + 2) = some (.inr (0, 16, fun _ => none))
theorem ja_LT_1 {lay : ja_Y} {a : Nat} (h : ja_LT lay a) : lay (a + 1) = some (.inr (0, 16, fun _ => none)) := h.2.1
theorem ja_LT_2 {lay : ja_Y} {a : Nat} (h : ja_LT lay a) : lay (a + 2) = some (.inr (0, 16, fun _ => none)) := h.2.2
def ja_LP (lay : ja_Y) (a : Nat) : Prop := lay a = some (.inl (4, [some (.ref (a + 1)), none, none, some (.ref (a + 2)), none, some (.ref (a + 3)), none, some (.ref (a + 4))])) ∧ lay (a + 1) = some (.inr (0, 24, fun _ => none)) ∧ lay (a + 2) = some (.inr (0, 256, fun _ => none)) ∧ lay (a + 3) = some (.inr (0, 32, fun _ => none)) ∧ lay (a + 4) = some (.inr (0, 32, fun _ => none))
theorem ja_LP_1 {lay : ja_Y} {a : Nat} (h : ja_LP lay a) : lay (a + 1) = some (.inr (0, 24, fun _ => none)) := h.2.1
theorem ja_LP_2 {lay : ja_Y} {a : Nat} (h : ja_LP lay a) : lay (a + 2) = some (.inr (0, 256, fun _ => none)) := h.2.2.1
theorem ja_LP_3 {lay : ja_Y} {a : Nat} (h : ja_LP lay a) : lay (a + 3) = some (.inr (0, 32, fun _ => none)) := h.2.2.2.1
theorem ja_LP_4 {lay : ja_Y} {a : Nat} (h : ja_LP lay a) : lay (a + 4) = some (.inr (0, 32, fun _ => none)) := h.2.2.2.2
def ja_LA (lay : ja_Y) (a : Nat) : Prop := lay a = some (.inl (1, [some (.ref (a + 1)), some (.ref (a + 2)), some (.ref (a + 3)), some (.ref (a + 4)), none])) ∧ lay (a + 1) = some (.inr (0, 24, fun _ => none)) ∧ lay (a + 2) = some (.inr (0, 24, fun _ => none)) ∧ lay (a + 3) = some (.inr (0, 24, fun _ => none)) ∧ lay (a + 4) = some (.inr (0, 24, fun _ => none))
theorem ja_LA_1 {lay : ja_Y} {a : Nat} (h : ja_LA lay a) : lay (a + 1) = some (.inr (0, 24, fun _ => none)) := h.2.1
theorem ja_LA_2 {lay : ja_Y} {a : Nat} (h : ja_LA lay a) : lay (a + 2) = some (.inr (0, 24, fun _ => none)) := h.2.2.1
theorem ja_LA_3 {lay : ja_Y} {a : Nat} (h : ja_LA lay a) : lay (a + 3) = some (.inr (0, 24, fun _ => none)) := h.2.2.2.1
theorem ja_LA_4 {lay : ja_Y} {a : Nat} (h : ja_LA lay a) : lay (a + 4) = some (.inr (0, 24, fun _ => none)) := h.2.2.2.2
def ja_LX (lay : ja_Y) (a : Nat) : Prop := lay a = some (.inl (0, [some (.ref (a + 1)), none, none, none, none, none, none, none])) ∧ lay (a + 1) = some (.inr (0, 120, fun _ => none))
theorem ja_LX_1 {lay : ja_Y} {a : Nat} (h : ja_LX lay a) : lay (a + 1) = some (.inr (0, 120, fun _ => none)) := h.2
def ja_LR (lay : ja_Y) (b : Nat) : Prop := lay b = some (.inl (5, [some (.ref (b + 1)), some (.ref (b + 2)), some (.ref (b + 6)), some (.ref (b + 9)), some (.ref (b + 14)), some (.ref (b + 15)), none, none, none])) ∧ ja_LS lay (b + 1) ∧ ja_LF lay (b + 2) ∧ ja_LT lay (b + 6) ∧ ja_LP lay (b + 9) ∧ ja_LC lay (b + 14) ∧ ja_LA lay (b + 15)
theorem ja_LR_1 {lay : ja_Y} {a : Nat} (h : ja_LR lay a) : ja_LS lay (a + 1) := h.2.1
theorem ja_LR_2 {lay : ja_Y} {a : Nat} (h : ja_LR lay a) : ja_LF lay (a + 2) := h.2.2.1
theorem ja_LR_6 {lay : ja_Y} {a : Nat} (h : ja_LR lay a) : ja_LT lay (a + 6) := h.2.2.2.1
theorem ja_LR_9 {lay : ja_Y} {a : Nat} (h : ja_LR lay a) : ja_LP lay (a + 9) := h.2.2.2.2.1
theorem ja_LR_14 {lay : ja_Y} {a : Nat} (h : ja_LR lay a) : ja_LC lay (a + 14) := h.2.2.2.2.2.1
theorem ja_LR_15 {lay : ja_Y} {a : Nat} (h : ja_LR lay a) : ja_LA lay (a + 15) := h.2.2.2.2.2.2
-- answers
def ja_b (p : Prop) [Decidable p] : Int := if p then 1 else 0
def ja_rd (lay : ja_Y) (mem : ja_M) (n : Nat) (r : Option Value) : ja_P := fun v lay' mem' n' => r = v ∧ lay = lay' ∧ mem = mem' ∧ n = n'
theorem ja_mulb {a b A B : Int} (h0 : 0 ≤ a) (h1 : a ≤ A) (g0 : 0 ≤ b) (g1 : b ≤ B) : 0 ≤ a * b ∧ a * b ≤ A * B := ⟨Int.mul_nonneg h0 g0, Int.mul_le_mul h1 g1 g0 (by omega)⟩
/-- the settings' ranges -/
def ja_SO (mem : ja_M) (s : Nat) : Prop := (4 ≤ mem s 0 ∧ mem s 0 ≤ 16) ∧ (2 ≤ mem s 1 ∧ mem s 1 ≤ 32) ∧ (1 ≤ mem s 2 ∧ mem s 2 ≤ 200) ∧ (2 ≤ mem s 3 ∧ mem s 3 ≤ 6) ∧ (2 ≤ mem s 4 ∧ mem s 4 ≤ 6) ∧ (0 ≤ mem s 5 ∧ mem s 5 ≤ 200) ∧ (1 ≤ mem s 6 ∧ mem s 6 ≤ 100) ∧ (0 ≤ mem s 7 ∧ mem s 7 ≤ 100) ∧ (0 ≤ mem s 8 ∧ mem s 8 ≤ 1)
def ja_wave (mem : ja_M) (s : Nat) (f j : Int) : Int := mem s 2 * ((f * mem s 0 + j) % mem s 1) % 201 - 100
def ja_cells (mem : ja_M) (s : Nat) : Int := mem s 3 * mem s 4
theorem ja_SO.cells {mem : ja_M} {s : Nat} (h : ja_SO mem s) : 4 ≤ ja_cells mem s ∧ ja_cells mem s ≤ 36 := by
  obtain ⟨-, -, -, h3, h4, -⟩ := h
  have h1 := Int.mul_le_mul h3.1 h4.1 (by omega) (by omega)
  have h2 := Int.mul_le_mul h3.2 h4.2 (by omega) (by omega)
  exact ⟨by unfold ja_cells; omega, by unfold ja_cells; omega⟩
abbrev ja_hasB (mem : ja_M) (s : Nat) (blk : Int) : Prop := 0 ≤ blk ∧ blk ≤ 999 / ja_cells mem s
abbrev ja_hasP (mem : ja_M) (s : Nat) (row blk idx : Int) : Prop := ja_hasB mem s blk ∧ 0 ≤ idx ∧ idx < if row = 0 then mem s 3 else mem s 4
def ja_cov (mem : ja_M) (s : Nat) (row blk idx i : Int) : Int := blk * ja_cells mem s + if row = 0 then i * mem s 3 + idx else idx * mem s 3 + i
def ja_msk : List Bool → List (Option Value) → List (Option Value)
  | true :: b, x :: r => x :: ja_msk b r
  | false :: b, _ :: r => none :: ja_msk b r
  | [], r => r
  | _, [] => []
theorem ja_msk_in : ∀ (b : List Bool) (ls : List (Option Value)) (k : Nat) (v : Value), (ja_msk b ls)[k]? = some (some v) → ls[k]? = some (some v)
  | [], ls, k, v, h => by simpa [ja_msk] using h
  | true :: b, [], k, v, h => by simp [ja_msk] at h
  | false :: b, [], k, v, h => by simp [ja_msk] at h
  | true :: b, x :: r, 0, v, h => by simpa [ja_msk] using h
  | true :: b, x :: r, k + 1, v, h => by
    simp only [ja_msk, List.getElem?_cons_succ] at h ⊢
    exact ja_msk_in b r k v h
  | false :: b, x :: r, 0, v, h => by simp [ja_msk] at h
  | false :: b, x :: r, k + 1, v, h => by
    simp only [ja_msk, List.getElem?_cons_succ] at h ⊢
    exact ja_msk_in b r k v h
/-- fewer locals are known -/
theorem r_msk {C : ja_C} {cells slots n pc : Nat} {lay : ja_Y} {mem : ja_M} {ls ls' : List (Option Value)} {st : List Value} (b : List Bool) (h : ja_msk b ls = ls') (k : ja_W C cells slots lay mem n pc ls' st) : ja_W C cells slots lay mem n pc ls st := by
  subst h
  obtain ⟨p, l, e, R, s, m, args, below, meth, c, D, cA, B, nL, Q⟩ := C
  intro H locs lsA hH hS hl
  refine k H locs lsA hH hS (ja_has_sub hl fun q hq => ?_)
  obtain ⟨j, h1, h2⟩ := (ja_al_mem _ 0 q).mp hq
  exact (ja_al_mem _ 0 q).mpr ⟨j, h1, ja_msk_in b ls j q.2 h2⟩
