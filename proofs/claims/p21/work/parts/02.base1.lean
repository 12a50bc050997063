-- numbers: an int is held as ja_I of a whole number
def ja_I (z : Int) : Int32 := Int32.ofInt z
def ja_L (z : Int) : Int64 := Int64.ofInt z
def ja_in (z : Int) : Prop := -2147483648 ≤ z ∧ z < 2147483648
theorem ja_toInt {z : Int} (h : ja_in z) : (ja_I z).toInt = z := Int32.toInt_ofInt_of_le h.1 h.2
theorem ja_range (x : Int32) : ja_in x.toInt := ⟨by have := Int32.le_toInt x; omega, by have := Int32.toInt_lt x; omega⟩
theorem ja_of (x : Int32) : ja_I x.toInt = x := Int32.ofInt_toInt x
theorem ja_add (a b : Int) : ja_I a + ja_I b = ja_I (a + b) := by unfold ja_I; rw [Int32.ofInt_add]
theorem ja_sub (a b : Int) : ja_I a - ja_I b = ja_I (a - b) := by unfold ja_I; rw [Int32.ofInt_sub]
theorem ja_mul (a b : Int) : ja_I a * ja_I b = ja_I (a * b) := by unfold ja_I; rw [Int32.ofInt_mul]
theorem ja_zero : (0 : Int32) = ja_I 0 := rfl
theorem ja_neg (a : Int) : -(ja_I a) = ja_I (-a) := by
  have h : ja_I (-a) = ja_I 0 - ja_I a := by rw [ja_sub]; congr 1; omega
  rw [h, ← ja_zero]
  first | exact (Int32.zero_sub _).symm | simp
theorem ja_eq {a b : Int} (ha : ja_in a) (hb : ja_in b) : ja_I a = ja_I b ↔ a = b := by
  rw [← Int32.toInt_inj, ja_toInt ha, ja_toInt hb]
theorem ja_le {a b : Int} (ha : ja_in a) (hb : ja_in b) : ja_I a ≤ ja_I b ↔ a ≤ b := by
  rw [Int32.le_iff_toInt_le, ja_toInt ha, ja_toInt hb]
theorem ja_lt {a b : Int} (ha : ja_in a) (hb : ja_in b) : ja_I a < ja_I b ↔ a < b := by
  rw [Int32.lt_iff_toInt_lt, ja_toInt ha, ja_toInt hb]
theorem ja_in0 : ja_in 0 := ⟨by decide, by decide⟩
theorem ja_tdiv_in {a b : Int} (ha : ja_in a) (hb : 0 < b) : ja_in (a.tdiv b) := by
  obtain ⟨h1, h2⟩ := ha
  have h := Int.tmod_def a b
  rcases Int.le_total 0 a with h0 | h0
  · rw [Int.tdiv_eq_ediv_of_nonneg h0]
    have h3 := Int.ediv_nonneg h0 (by omega : 0 ≤ b)
    have h4 := Int.ediv_le_self b h0
    exact ⟨by omega, by omega⟩
  · have e : a.tdiv b = -((-a) / b) := by
      rw [← Int.tdiv_eq_ediv_of_nonneg (by omega : 0 ≤ -a), Int.neg_tdiv]
      omega
    have h3 := Int.ediv_nonneg (by omega : 0 ≤ -a) (by omega : 0 ≤ b)
    have h4 := Int.ediv_le_self b (by omega : 0 ≤ -a)
    rw [e]
    exact ⟨by omega, by omega⟩
theorem ja_div {a b : Int} (ha : ja_in a) (hb : ja_in b) (h : 0 < b) : ja_I a / ja_I b = ja_I (a.tdiv b) := by
  have hne : ja_I b ≠ -1 := by
    intro e
    have e2 : (ja_I b).toInt = -1 := by rw [e]; rfl
    rw [ja_toInt hb] at e2
    omega
  rw [← Int32.toInt_inj, Int32.toInt_div_of_ne_right _ _ hne, ja_toInt ha, ja_toInt hb, ja_toInt (ja_tdiv_in ha h)]
theorem ja_ne0 {b : Int} (hb : ja_in b) (h : b ≠ 0) : ¬ ja_I b = 0 := by
  rw [ja_zero, ja_eq hb ja_in0]
  exact h
theorem ja_rem {a b : Int} (ha : ja_in a) (hb : ja_in b) (h : 0 < b) : ja_I a - ja_I a / ja_I b * ja_I b = ja_I (a.tmod b) := by
  rw [ja_div ha hb h, ja_mul, ja_sub, Int.tmod_def, Int.mul_comm b]
theorem ja_clamp {z : Int} (h : ja_in z) : (ja_I z).toNatClampNeg = z.toNat := by
  show (ja_I z).toInt.toNat = z.toNat
  rw [ja_toInt h]
theorem ja_vpin {z : Int} {n : Nat} (h0 : 0 ≤ z) (h1 : z < n) (hn : n ≤ 2147483648) : vp_in (ja_I z) n := by
  have hz : ja_in z := ⟨by omega, by omega⟩
  rw [vp_in_iff, ja_toInt hz]
  exact ⟨h0, h1⟩
theorem ja_byte {z : Int} (h : -128 ≤ z ∧ z ≤ 127) : (Int8.ofInt z).toInt32 = ja_I z := by
  rw [← Int32.toInt_inj, ja_toInt ⟨by omega, by omega⟩]
  first
    | (rw [Int8.toInt_toInt32, Int8.toInt_ofInt_of_le (by omega) (by omega)])
    | (simp [Int8.toInt_ofInt]; omega)
theorem ja_short {z : Int} (h : -32768 ≤ z ∧ z ≤ 32767) : (Int16.ofInt z).toInt32 = ja_I z := by
  rw [← Int32.toInt_inj, ja_toInt ⟨by omega, by omega⟩]
  first
    | (rw [Int16.toInt_toInt32, Int16.toInt_ofInt_of_le (by omega) (by omega)])
    | (simp [Int16.toInt_ofInt]; omega)
theorem ja_Lof (x : Int64) : ja_L x.toInt = x := Int64.ofInt_toInt x
-- memory: a cell's numbers by address and place
abbrev ja_M : Type := Nat → Nat → Int
def ja_up (mem : ja_M) (a j : Nat) (z : Int) : ja_M := fun a' j' => if a' = a ∧ j' = j then z else mem a' j'
theorem ja_up_s (mem : ja_M) (a j : Nat) (z : Int) : ja_up mem a j z a j = z := by simp [ja_up]
theorem ja_up_a {mem : ja_M} {a j a' j' : Nat} {z : Int} (h : a' ≠ a) : ja_up mem a j z a' j' = mem a' j' := by simp [ja_up, h]
theorem ja_up_j {mem : ja_M} {a j a' j' : Nat} {z : Int} (h : j' ≠ j) : ja_up mem a j z a' j' = mem a' j' := by simp [ja_up, h]
theorem ja_up_row {mem : ja_M} {a j a' : Nat} {z : Int} (h : a' ≠ a) : ja_up mem a j z a' = mem a' := by funext q; exact ja_up_a h
/-- what a cell is: an object of a class, place by place (none: a number, some: a fixed value); or an array: its kind (0 int, 1 long, 2 boolean, 3 references), its length, its references -/
abbrev ja_E : Type := (Nat × List (Option Value)) ⊕ (Nat × Nat × (Nat → Option Nat))
abbrev ja_Y : Type := Nat → Option ja_E
def ja_dv (d : Option Value) (z : Int) : Value := match d with | some v => v | none => .int (ja_I z)
def ja_fs : Nat → List (Option Value) → (Nat → Int) → List Value
  | _, [], _ => []
  | j, d :: ds, f => ja_dv d (f j) :: ja_fs (j + 1) ds f
def ja_cell (cA : Nat → ClassId) (e : ja_E) (f : Nat → Int) : va_E := match e with
  | .inl o => .inr (o.1, ja_fs 0 o.2 f)
  | .inr (0, n, _) => .inl (cA 0, n, .inl (fun j => ja_I (f j)))
  | .inr (1, n, _) => .inl (cA 1, n, .inr (.inl (fun j => ja_L (f j))))
  | .inr (2, n, _) => .inl (cA 2, n, .inl (fun j => ja_I (f j)))
  | .inr (_, n, r) => .inl (cA 3, n, .inr (.inr (.inr (.inr r))))
def ja_H (D : va_G) (cA : Nat → ClassId) (B : Nat) (lay : ja_Y) (mem : ja_M) (n : Nat) (H : Heap) : Prop := H.size = n ∧ ∀ (a : Nat) (e : ja_E), lay a = some e → B ≤ a ∧ a < n ∧ va_at D vwCl (a, ja_cell cA e (mem a)) H
def ja_tys (cA : Nat → ClassId) : List (ClassId × FieldType) := [(cA 0, .int), (cA 1, .long), (cA 2, .boolean), (cA 3, .object RX5)]
theorem ja_fs_len : ∀ (ds : List (Option Value)) (i : Nat) (f : Nat → Int), (ja_fs i ds f).length = ds.length
  | [], _, _ => rfl
  | _ :: ds, i, f => by simp [ja_fs, ja_fs_len ds (i + 1) f]
theorem ja_fs_get : ∀ (ds : List (Option Value)) (i : Nat) (f : Nat → Int) (k : Nat) (d : Option Value), ds[k]? = some d → (ja_fs i ds f)[k]? = some (ja_dv d (f (i + k)))
  | [], _, _, k, d, h => by simp at h
  | d0 :: ds, i, f, 0, d, h => by
    simp only [List.getElem?_cons_zero, Option.some.injEq] at h
    subst h
    rfl
  | d0 :: ds, i, f, k + 1, d, h => by
    simp only [List.getElem?_cons_succ] at h
    have := ja_fs_get ds (i + 1) f k d h
    simp only [ja_fs, List.getElem?_cons_succ]
    rw [this, show i + 1 + k = i + (k + 1) by omega]
theorem ja_fs_get0 {ds : List (Option Value)} {f : Nat → Int} {k : Nat} {d : Option Value} (h : ds[k]? = some d) : (ja_fs 0 ds f)[k]? = some (ja_dv d (f k)) := by
  have := ja_fs_get ds 0 f k d h
  rwa [Nat.zero_add] at this
theorem ja_fs_set : ∀ (ds : List (Option Value)) (i : Nat) (f g : Nat → Int) (k : Nat), ds[k]? = some none → (∀ j, j ≠ i + k → g j = f j) → (ja_fs i ds f).set k (.int (ja_I (g (i + k)))) = ja_fs i ds g
  | [], _, _, _, k, h, _ => by simp at h
  | d0 :: ds, i, f, g, 0, h, hg => by
    simp only [List.getElem?_cons_zero, Option.some.injEq] at h
    subst h
    have e : ja_fs (i + 1) ds f = ja_fs (i + 1) ds g := by
      have key : ∀ (ds : List (Option Value)) (j : Nat), i < j → ja_fs j ds f = ja_fs j ds g := by
        intro ds
        induction ds with
        | nil => intro j hj; rfl
        | cons d ds ih =>
          intro j hj
          simp only [ja_fs]
          rw [ih (j + 1) (by omega), hg j (by omega)]
      exact key ds (i + 1) (by omega)
    simp only [ja_fs, List.set_cons_zero]
    rw [e]
    rfl
  | d0 :: ds, i, f, g, k + 1, h, hg => by
    simp only [List.getElem?_cons_succ] at h
    have := ja_fs_set ds (i + 1) f g k h (fun j hj => hg j (by omega))
    simp only [ja_fs, List.set_cons_succ]
    rw [show i + (k + 1) = i + 1 + k by omega, this, hg i (by omega)]
theorem ja_fs_put {ds : List (Option Value)} {mem : ja_M} {a k : Nat} {z : Int} (h : ds[k]? = some none) : (ja_fs 0 ds (mem a)).set k (.int (ja_I z)) = ja_fs 0 ds (ja_up mem a k z a) := by
  have h1 := ja_fs_set ds 0 (mem a) (ja_up mem a k z a) k h (fun j hj => ja_up_j (by omega))
  rw [Nat.zero_add, ja_up_s] at h1
  exact h1
-- locals by place
def ja_al : Nat → List (Option Value) → List (Nat × Value)
  | _, [] => []
  | i, some v :: r => (i, v) :: ja_al (i + 1) r
  | i, none :: r => ja_al (i + 1) r
theorem ja_al_mem : ∀ (ls : List (Option Value)) (i : Nat) (q : Nat × Value), q ∈ ja_al i ls ↔ ∃ k, q.1 = i + k ∧ ls[k]? = some (some q.2)
  | [], i, q => by simp [ja_al]
  | some v :: r, i, q => by
    simp only [ja_al, List.mem_cons]
    rw [ja_al_mem r (i + 1) q]
    constructor
    · rintro (rfl | ⟨k, h1, h2⟩)
      · exact ⟨0, by simp, by simp⟩
      · exact ⟨k + 1, by omega, by simpa using h2⟩
    · rintro ⟨k, h1, h2⟩
      cases k with
      | zero =>
        left
        simp only [List.getElem?_cons_zero, Option.some.injEq] at h2
        obtain ⟨q1, q2⟩ := q
        simp only at h1 h2
        subst h2
        simp [h1]
      | succ k => right; exact ⟨k, by omega, by simpa using h2⟩
  | none :: r, i, q => by
    simp only [ja_al]
    rw [ja_al_mem r (i + 1) q]
    constructor
    · rintro ⟨k, h1, h2⟩
      exact ⟨k + 1, by omega, by simpa using h2⟩
    · rintro ⟨k, h1, h2⟩
      cases k with
      | zero => simp at h2
      | succ k => exact ⟨k, by omega, by simpa using h2⟩
theorem ja_has_at {lsA : Array Slot} {nL : Nat} {ls : List (Option Value)} (h : lv_has lsA nL (ja_al 0 ls)) {k : Nat} {v : Value} (hk : ls[k]? = some (some v)) : lsA[k]? = some (.val v) := by
  have := h.2.2 (k, v) ((ja_al_mem ls 0 (k, v)).mpr ⟨k, by simp, hk⟩)
  exact this
theorem ja_has_sub {lsA : Array Slot} {nL : Nat} {l l' : List (Nat × Value)} (h : lv_has lsA nL l) (hs : ∀ q ∈ l', q ∈ l) : lv_has lsA nL l' := ⟨h.1, h.2.1, fun q hq => h.2.2 q (hs q hq)⟩
/-- the local ahead of a stored one isn't a long -/
def ja_pre (ls : List (Option Value)) : Nat → Bool
  | 0 => true
  | i + 1 => match ls[i]? with | some (some v) => v.category != 2 | _ => true
theorem ja_has_set {lsA : Array Slot} {nL i : Nat} {ls : List (Option Value)} {v : Value} (h : lv_has lsA nL ((i, v) :: (ja_al 0 ls).filter (fun q => !(q.1 == i) && !(q.1 + 1 == i && q.2.category == 2)))) (hp : ja_pre ls i = true) : lv_has lsA nL (ja_al 0 (ls.set i (some v))) := by
  refine ja_has_sub h fun q hq => ?_
  obtain ⟨k, h1, h2⟩ := (ja_al_mem _ 0 q).mp hq
  by_cases hk : k = i
  · subst hk
    rw [List.getElem?_set] at h2
    simp only [if_true] at h2
    by_cases hl : k < ls.length
    · rw [if_pos hl] at h2
      simp only [Option.some.injEq] at h2
      obtain ⟨q1, q2⟩ := q
      simp only at h1 h2
      subst h2
      simp [h1]
    · rw [if_neg hl] at h2
      cases h2
  · rw [List.getElem?_set_ne (Ne.symm hk)] at h2
    refine List.mem_cons_of_mem _ (List.mem_filter.mpr ⟨(ja_al_mem _ 0 q).mpr ⟨k, h1, h2⟩, ?_⟩)
    simp only [Bool.and_eq_true, Bool.not_eq_true', beq_eq_false_iff_ne, ne_eq, Bool.and_eq_false_iff]
    refine ⟨by omega, ?_⟩
    by_cases hk1 : q.1 + 1 = i
    · right
      have : i = k + 1 := by omega
      subst this
      simp only [ja_pre, h2] at hp
      simpa using hp
    · left; exact hk1
theorem ja_has_setL {lsA : Array Slot} {nL i : Nat} {ls : List (Option Value)} {v : Value} (h : lv_has lsA nL ((i, v) :: (ja_al 0 ls).filter (fun q => !(q.1 == i) && (!(q.1 == i + 1) && !(q.1 + 1 == i && q.2.category == 2))))) (hp : ja_pre ls i = true) : lv_has lsA nL (ja_al 0 ((ls.set i (some v)).set (i + 1) none)) := by
  refine ja_has_sub h fun q hq => ?_
  obtain ⟨k, h1, h2⟩ := (ja_al_mem _ 0 q).mp hq
  by_cases hk1 : k = i + 1
  · subst hk1
    rw [List.getElem?_set] at h2
    simp only [if_true] at h2
    split at h2 <;> cases h2
  · rw [List.getElem?_set_ne (Ne.symm hk1)] at h2
    by_cases hk : k = i
    · subst hk
      rw [List.getElem?_set] at h2
      simp only [if_true] at h2
      by_cases hl : k < ls.length
      · rw [if_pos hl] at h2
        simp only [Option.some.injEq] at h2
        obtain ⟨q1, q2⟩ := q
        simp only at h1 h2
        subst h2
        simp [h1]
      · rw [if_neg hl] at h2
        cases h2
    · rw [List.getElem?_set_ne (Ne.symm hk)] at h2
      refine List.mem_cons_of_mem _ (List.mem_filter.mpr ⟨(ja_al_mem _ 0 q).mpr ⟨k, h1, h2⟩, ?_⟩)
      simp only [Bool.and_eq_true, Bool.not_eq_true', beq_eq_false_iff_ne, ne_eq, Bool.and_eq_false_iff]
      refine ⟨by omega, by omega, ?_⟩
      by_cases hk2 : q.1 + 1 = i
      · right
        have : i = k + 1 := by omega
        subst this
        simp only [ja_pre, h2] at hp
        simpa using hp
      · left; exact hk2
def ja_isN : Cond → Bool
  | .fieldLinkNest _ _ _ _ _ _ => true
  | .methodLinkNest _ _ _ _ => true
  | _ => false
def ja_K (D : va_G) (cA : Nat → ClassId) (U : State) : Prop := va_K D vwCl (ja_tys cA) U ∧ va_AO RX5 U ∧ ∀ w ∈ lw_tbl, ja_isN w = true → va_Nw w U
theorem ja_K.warm {D : va_G} {cA : Nat → ClassId} {s U : State} (hW : s.WarmedH U.vm) (h : ja_K D cA s) : ja_K D cA U := by
  refine ⟨va_K.moved hW.alike h.1, va_AO.moved hW.alike h.2.1, fun w hw hn => ?_⟩
  have h1 := h.2.2 w hw hn
  cases w <;> first | exact va_Nw.warmF hW h1 | exact va_Nw.warmM hW h1 | (simp [ja_isN] at hn)
theorem ja_K.call {D : va_G} {cA : Nat → ClassId} {U : State} (g : JFrame) (mk : MethodId) (a : Array Value) (h : ja_K D cA U) : ja_K D cA (U.calling g mk a) := by
  refine ⟨va_K.moved (u := U) (U := U.calling g mk a) (Vm.Alike.refl U.vm) h.1, va_AO.moved (u := U) (U := U.calling g mk a) (Vm.Alike.refl U.vm) h.2.1, fun w hw hn => ?_⟩
  have h1 := h.2.2 w hw hn
  refine va_Nw.same (u := U) ?_ rfl h1
  cases w <;> first | rfl | (simp [ja_isN] at hn)
def lw_tbg : List Cond := lw_tbl.filter goodWord
