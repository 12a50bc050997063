section
-- numbers: an int is held as ja_I of a whole number
def ja_I (z : Int) : Int32 := Int32.ofInt z
def ja_L (z : Int) : Int64 := Int64.ofInt z
def ja_in (z : Int) : Prop := -2147483648 ≤ z ∧ z < 2147483648
theorem ja_toInt {z : Int} (h : ja_in z) : (ja_I z).toInt = z := Int32.toInt_ofInt_of_le h.1 h.2
theorem ja_range (x : Int32) : ja_in x.toInt := ⟨by have := Int32.le_toInt x; omega, by have := Int32.toInt_lt x; omega⟩
theorem ja_of (x : Int32) : ja_I x.toInt = x := Int32.ofInt_toInt x
theorem ja_add (a b : Int) : ja_I a + ja_I b = ja_I (a + b) := by unfold ja_I; rw [Int32.ofInt_add]
theorem ja_sub (a b : Int) : ja_I a - ja_I b = ja_I (a - b) := by unfold ja_I; rw [Int32.ofInt_sub]
theorem ja_mul (a b : Int) : ja_I a * ja_I b = ja_I (a * b) := by unfold ja_I; rw [Int32.ofInt_mul]
theorem ja_zero : (0 : Int32) = ja_I 0 := rfl
theorem ja_neg (a : Int) : -(ja_I a) = ja_I (-a) := by
  have h : ja_I (-a) = ja_I 0 - ja_I a := by rw [ja_sub]; congr 1; omega
  rw [h, ← ja_zero]
  first | exact (Int32.zero_sub _).symm | simp
theorem ja_eq {a b : Int} (ha : ja_in a) (hb : ja_in b) : ja_I a = ja_I b ↔ a = b := by
  rw [← Int32.toInt_inj, ja_toInt ha, ja_toInt hb]
theorem ja_le {a b : Int} (ha : ja_in a) (hb : ja_in b) : ja_I a ≤ ja_I b ↔ a ≤ b := by
  rw [Int32.le_iff_toInt_le, ja_toInt ha, ja_toInt hb]
theorem ja_lt {a b : Int} (ha : ja_in a) (hb : ja_in b) : ja_I a < ja_I b ↔ a < b := by
  rw [Int32.lt_iff_toInt_lt, ja_toInt ha, ja_toInt hb]
theorem ja_in0 : ja_in 0 := ⟨by decide, by decide⟩
theorem ja_tdiv_in {a b : Int} (ha : ja_in a) (hb : 0 < b) : ja_in (a.tdiv b) := by
  obtain ⟨h1, h2⟩ := ha
  have h := Int.tmod_def a b
  rcases Int.le_total 0 a with h0 | h0
  · rw [Int.tdiv_eq_ediv_of_nonneg h0]
    have h3 := Int.ediv_nonneg h0 (by omega : 0 ≤ b)
    have h4 := Int.ediv_le_self b h0
    exact ⟨by omega, by omega⟩
  · have e : a.tdiv b = -((-a) / b) := by
      rw [← Int.tdiv_eq_ediv_of_nonneg (by omega : 0 ≤ -a), Int.neg_tdiv]
      omega
    have h3 := Int.ediv_nonneg (by omega : 0 ≤ -a) (by omega : 0 ≤ b)
    have h4 := Int.ediv_le_self b (by omega : 0 ≤ -a)
    rw [e]
    exact ⟨by omega, by omega⟩
theorem ja_div {a b : Int} (ha : ja_in a) (hb : ja_in b) (h : 0 < b) : ja_I a / ja_I b = ja_I (a.tdiv b) := by
  have hne : ja_I b ≠ -1 := by
    intro e
    have e2 : (ja_I b).toInt = -1 := by rw [e]; rfl
    rw [ja_toInt hb] at e2
    omega
  rw [← Int32.toInt_inj, Int32.toInt_div_of_ne_right _ _ hne, ja_toInt ha, ja_toInt hb, ja_toInt (ja_tdiv_in ha h)]
theorem ja_ne0 {b : Int} (hb : ja_in b) (h : b ≠ 0) : ¬ ja_I b = 0 := by
  rw [ja_zero, ja_eq hb ja_in0]
  exact h
theorem ja_rem {a b : Int} (ha : ja_in a) (hb : ja_in b) (h : 0 < b) : ja_I a - ja_I a / ja_I b * ja_I b = ja_I (a.tmod b) := by
  rw [ja_div ha hb h, ja_mul, ja_sub, Int.tmod_def, Int.mul_comm b]
theorem ja_clamp {z : Int} (h : ja_in z) : (ja_I z).toNatClampNeg = z.toNat := by
  show (ja_I z).toInt.toNat = z.toNat
  rw [ja_toInt h]
theorem ja_vpin {z : Int} {n : Nat} (h0 : 0 ≤ z) (h1 : z < n) (hn : n ≤ 2147483648) : vp_in (ja_I z) n := by
  have hz : ja_in z := ⟨by omega, by omega⟩
  rw [vp_in_iff, ja_toInt hz]
  exact ⟨h0, h1⟩
theorem ja_byte {z : Int} (h : -128 ≤ z ∧ z ≤ 127) : (Int8.ofInt z).toInt32 = ja_I z := by
  rw [← Int32.toInt_inj, ja_toInt ⟨by omega, by omega⟩]
  first
    | (rw [Int8.toInt_toInt32, Int8.toInt_ofInt_of_le (by omega) (by omega)])
    | (simp [Int8.toInt_ofInt]; omega)
theorem ja_short {z : Int} (h : -32768 ≤ z ∧ z ≤ 32767) : (Int16.ofInt z).toInt32 = ja_I z := by
  rw [← Int32.toInt_inj, ja_toInt ⟨by omega, by omega⟩]
  first
    | (rw [Int16.toInt_toInt32, Int16.toInt_ofInt_of_le (by omega) (by omega)])
    | (simp [Int16.toInt_ofInt]; omega)
theorem ja_Lof (x : Int64) : ja_L x.toInt = x := Int64.ofInt_toInt x
-- memory: a cell's numbers by address and place
abbrev ja_M : Type := Nat → Nat → Int
def ja_up (mem : ja_M) (a j : Nat) (z : Int) : ja_M := fun a' j' => if a' = a ∧ j' = j then z else mem a' j'
theorem ja_up_s (mem : ja_M) (a j : Nat) (z : Int) : ja_up mem a j z a j = z := by simp [ja_up]
theorem ja_up_a {mem : ja_M} {a j a' j' : Nat} {z : Int} (h : a' ≠ a) : ja_up mem a j z a' j' = mem a' j' := by simp [ja_up, h]
theorem ja_up_j {mem : ja_M} {a j a' j' : Nat} {z : Int} (h : j' ≠ j) : ja_up mem a j z a' j' = mem a' j' := by simp [ja_up, h]
theorem ja_up_row {mem : ja_M} {a j a' : Nat} {z : Int} (h : a' ≠ a) : ja_up mem a j z a' = mem a' := by funext q; exact ja_up_a h
/-- what a cell is: an object of a class, place by place (none: a number, some: a fixed value); or an array: its kind (0 int, 1 long, 2 boolean, 3 references), its length, its references -/
abbrev ja_E : Type := (Nat × List (Option Value)) ⊕ (Nat × Nat × (Nat → Option Nat))
abbrev ja_Y : Type := Nat → Option ja_E
def ja_dv (d : Option Value) (z : Int) : Value := match d with | some v => v | none => .int (ja_I z)
def ja_fs : Nat → List (Option Value) → (Nat → Int) → List Value
  | _, [], _ => []
  | j, d :: ds, f => ja_dv d (f j) :: ja_fs (j + 1) ds f
def ja_cell (cA : Nat → ClassId) (e : ja_E) (f : Nat → Int) : va_E := match e with
  | .inl o => .inr (o.1, ja_fs 0 o.2 f)
  | .inr (0, n, _) => .inl (cA 0, n, .inl (fun j => ja_I (f j)))
  | .inr (1, n, _) => .inl (cA 1, n, .inr (.inl (fun j => ja_L (f j))))
  | .inr (2, n, _) => .inl (cA 2, n, .inl (fun j => ja_I (f j)))
  | .inr (_, n, r) => .inl (cA 3, n, .inr (.inr (.inr (.inr r))))
def ja_H (D : va_G) (cA : Nat → ClassId) (B : Nat) (lay : ja_Y) (mem : ja_M) (n : Nat) (H : Heap) : Prop := H.size = n ∧ ∀ (a : Nat) (e : ja_E), lay a = some e → B ≤ a ∧ a < n ∧ va_at D vwCl (a, ja_cell cA e (mem a)) H
def ja_tys (cA : Nat → ClassId) : List (ClassId × FieldType) := [(cA 0, .int), (cA 1, .long), (cA 2, .boolean), (cA 3, .object RX5)]
theorem ja_fs_len : ∀ (ds : List (Option Value)) (i : Nat) (f : Nat → Int), (ja_fs i ds f).length = ds.length
  | [], _, _ => rfl
  | _ :: ds, i, f => by simp [ja_fs, ja_fs_len ds (i + 1) f]
theorem ja_fs_get : ∀ (ds : List (Option Value)) (i : Nat) (f : Nat → Int) (k : Nat) (d : Option Value), ds[k]? = some d → (ja_fs i ds f)[k]? = some (ja_dv d (f (i + k)))
  | [], _, _, k, d, h => by simp at h
  | d0 :: ds, i, f, 0, d, h => by
    simp only [List.getElem?_cons_zero, Option.some.injEq] at h
    subst h
    rfl
  | d0 :: ds, i, f, k + 1, d, h => by
    simp only [List.getElem?_cons_succ] at h
    have := ja_fs_get ds (i + 1) f k d h
    simp only [ja_fs, List.getElem?_cons_succ]
    rw [this, show i + 1 + k = i + (k + 1) by omega]
theorem ja_fs_get0 {ds : List (Option Value)} {f : Nat → Int} {k : Nat} {d : Option Value} (h : ds[k]? = some d) : (ja_fs 0 ds f)[k]? = some (ja_dv d (f k)) := by
  have := ja_fs_get ds 0 f k d h
  rwa [Nat.zero_add] at this
theorem ja_fs_set : ∀ (ds : List (Option Value)) (i : Nat) (f g : Nat → Int) (k : Nat), ds[k]? = some none → (∀ j, j ≠ i + k → g j = f j) → (ja_fs i ds f).set k (.int (ja_I (g (i + k)))) = ja_fs i ds g
  | [], _, _, _, k, h, _ => by simp at h
  | d0 :: ds, i, f, g, 0, h, hg => by
    simp only [List.getElem?_cons_zero, Option.some.injEq] at h
    subst h
    have e : ja_fs (i + 1) ds f = ja_fs (i + 1) ds g := by
      have key : ∀ (ds : List (Option Value)) (j : Nat), i < j → ja_fs j ds f = ja_fs j ds g := by
        intro ds
        induction ds with
        | nil => intro j hj; rfl
        | cons d ds ih =>
          intro j hj
          simp only [ja_fs]
          rw [ih (j + 1) (by omega), hg j (by omega)]
      exact key ds (i + 1) (by omega)
    simp only [ja_fs, List.set_cons_zero]
    rw [e]
    rfl
  | d0 :: ds, i, f, g, k + 1, h, hg => by
    simp only [List.getElem?_cons_succ] at h
    have := ja_fs_set ds (i + 1) f g k h (fun j hj => hg j (by omega))
    simp only [ja_fs, List.set_cons_succ]
    rw [show i + (k + 1) = i + 1 + k by omega, this, hg i (by omega)]
theorem ja_fs_put {ds : List (Option Value)} {mem : ja_M} {a k : Nat} {z : Int} (h : ds[k]? = some none) : (ja_fs 0 ds (mem a)).set k (.int (ja_I z)) = ja_fs 0 ds (ja_up mem a k z a) := by
  have h1 := ja_fs_set ds 0 (mem a) (ja_up mem a k z a) k h (fun j hj => ja_up_j (by omega))
  rw [Nat.zero_add, ja_up_s] at h1
  exact h1
-- locals by place
def ja_al : Nat → List (Option Value) → List (Nat × Value)
  | _, [] => []
  | i, some v :: r => (i, v) :: ja_al (i + 1) r
  | i, none :: r => ja_al (i + 1) r
theorem ja_al_mem : ∀ (ls : List (Option Value)) (i : Nat) (q : Nat × Value), q ∈ ja_al i ls ↔ ∃ k, q.1 = i + k ∧ ls[k]? = some (some q.2)
  | [], i, q => by simp [ja_al]
  | some v :: r, i, q => by
    simp only [ja_al, List.mem_cons]
    rw [ja_al_mem r (i + 1) q]
    constructor
    · rintro (rfl | ⟨k, h1, h2⟩)
      · exact ⟨0, by simp, by simp⟩
      · exact ⟨k + 1, by omega, by simpa using h2⟩
    · rintro ⟨k, h1, h2⟩
      cases k with
      | zero =>
        left
        simp only [List.getElem?_cons_zero, Option.some.injEq] at h2
        obtain ⟨q1, q2⟩ := q
        simp only at h1 h2
        subst h2
        simp [h1]
      | succ k => right; exact ⟨k, by omega, by simpa using h2⟩
  | none :: r, i, q => by
    simp only [ja_al]
    rw [ja_al_mem r (i + 1) q]
    constructor
    · rintro ⟨k, h1, h2⟩
      exact ⟨k + 1, by omega, by simpa using h2⟩
    · rintro ⟨k, h1, h2⟩
      cases k with
      | zero => simp at h2
      | succ k => exact ⟨k, by omega, by simpa using h2⟩
theorem ja_has_at {lsA : Array Slot} {nL : Nat} {ls : List (Option Value)} (h : lv_has lsA nL (ja_al 0 ls)) {k : Nat} {v : Value} (hk : ls[k]? = some (some v)) : lsA[k]? = some (.val v) := by
  have := h.2.2 (k, v) ((ja_al_mem ls 0 (k, v)).mpr ⟨k, by simp, hk⟩)
  exact this
theorem ja_has_sub {lsA : Array Slot} {nL : Nat} {l l' : List (Nat × Value)} (h : lv_has lsA nL l) (hs : ∀ q ∈ l', q ∈ l) : lv_has lsA nL l' := ⟨h.1, h.2.1, fun q hq => h.2.2 q (hs q hq)⟩
/-- the local ahead of a stored one isn't a long -/
def ja_pre (ls : List (Option Value)) : Nat → Bool
  | 0 => true
  | i + 1 => match ls[i]? with | some (some v) => v.category != 2 | _ => true
theorem ja_has_set {lsA : Array Slot} {nL i : Nat} {ls : List (Option Value)} {v : Value} (h : lv_has lsA nL ((i, v) :: (ja_al 0 ls).filter (fun q => !(q.1 == i) && !(q.1 + 1 == i && q.2.category == 2)))) (hp : ja_pre ls i = true) : lv_has lsA nL (ja_al 0 (ls.set i (some v))) := by
  refine ja_has_sub h fun q hq => ?_
  obtain ⟨k, h1, h2⟩ := (ja_al_mem _ 0 q).mp hq
  by_cases hk : k = i
  · subst hk
    rw [List.getElem?_set] at h2
    simp only [if_true] at h2
    by_cases hl : k < ls.length
    · rw [if_pos hl] at h2
      simp only [Option.some.injEq] at h2
      obtain ⟨q1, q2⟩ := q
      simp only at h1 h2
      subst h2
      simp [h1]
    · rw [if_neg hl] at h2
      cases h2
  · rw [List.getElem?_set_ne (Ne.symm hk)] at h2
    refine List.mem_cons_of_mem _ (List.mem_filter.mpr ⟨(ja_al_mem _ 0 q).mpr ⟨k, h1, h2⟩, ?_⟩)
    simp only [Bool.and_eq_true, Bool.not_eq_true', beq_eq_false_iff_ne, ne_eq, Bool.and_eq_false_iff]
    refine ⟨by omega, ?_⟩
    by_cases hk1 : q.1 + 1 = i
    · right
      have : i = k + 1 := by omega
      subst this
      simp only [ja_pre, h2] at hp
      simpa using hp
    · left; exact hk1
theorem ja_has_setL {lsA : Array Slot} {nL i : Nat} {ls : List (Option Value)} {v : Value} (h : lv_has lsA nL ((i, v) :: (ja_al 0 ls).filter (fun q => !(q.1 == i) && (!(q.1 == i + 1) && !(q.1 + 1 == i && q.2.category == 2))))) (hp : ja_pre ls i = true) : lv_has lsA nL (ja_al 0 ((ls.set i (some v)).set (i + 1) none)) := by
  refine ja_has_sub h fun q hq => ?_
  obtain ⟨k, h1, h2⟩ := (ja_al_mem _ 0 q).mp hq
  by_cases hk1 : k = i + 1
  · subst hk1
    rw [List.getElem?_set] at h2
    simp only [if_true] at h2
    split at h2 <;> cases h2
  · rw [List.getElem?_set_ne (Ne.symm hk1)] at h2
    by_cases hk : k = i
    · subst hk
      rw [List.getElem?_set] at h2
      simp only [if_true] at h2
      by_cases hl : k < ls.length
      · rw [if_pos hl] at h2
        simp only [Option.some.injEq] at h2
        obtain ⟨q1, q2⟩ := q
        simp only at h1 h2
        subst h2
        simp [h1]
      · rw [if_neg hl] at h2
        cases h2
    · rw [List.getElem?_set_ne (Ne.symm hk)] at h2
      refine List.mem_cons_of_mem _ (List.mem_filter.mpr ⟨(ja_al_mem _ 0 q).mpr ⟨k, h1, h2⟩, ?_⟩)
      simp only [Bool.and_eq_true, Bool.not_eq_true', beq_eq_false_iff_ne, ne_eq, Bool.and_eq_false_iff]
      refine ⟨by omega, by omega, ?_⟩
      by_cases hk2 : q.1 + 1 = i
      · right
        have : i = k + 1 := by omega
        subst this
        simp only [ja_pre, h2] at hp
        simpa using hp
      · left; exact hk2
def ja_isN : Cond → Bool
  | .fieldLinkNest _ _ _ _ _ _ => true
  | .methodLinkNest _ _ _ _ => true
  | _ => false
def ja_K (D : va_G) (cA : Nat → ClassId) (U : State) : Prop := va_K D vwCl (ja_tys cA) U ∧ va_AO RX5 U ∧ ∀ w ∈ lw_tbl, ja_isN w = true → va_Nw w U
theorem ja_K.warm {D : va_G} {cA : Nat → ClassId} {s U : State} (hW : s.WarmedH U.vm) (h : ja_K D cA s) : ja_K D cA U := by
  refine ⟨va_K.moved hW.alike h.1, va_AO.moved hW.alike h.2.1, fun w hw hn => ?_⟩
  have h1 := h.2.2 w hw hn
  cases w <;> first | exact va_Nw.warmF hW h1 | exact va_Nw.warmM hW h1 | (simp [ja_isN] at hn)
theorem ja_K.call {D : va_G} {cA : Nat → ClassId} {U : State} (g : JFrame) (mk : MethodId) (a : Array Value) (h : ja_K D cA U) : ja_K D cA (U.calling g mk a) := by
  refine ⟨va_K.moved (u := U) (U := U.calling g mk a) (Vm.Alike.refl U.vm) h.1, va_AO.moved (u := U) (U := U.calling g mk a) (Vm.Alike.refl U.vm) h.2.1, fun w hw hn => ?_⟩
  have h1 := h.2.2 w hw hn
  refine va_Nw.same (u := U) ?_ rfl h1
  cases w <;> first | rfl | (simp [ja_isN] at hn)
def lw_tbg : List Cond := lw_tbl.filter goodWord
end
section
abbrev ja_C : Type := Program × Launch × Env × Room × State × MethodId × Array Value × List Frame × Method × Code × va_G × (Nat → ClassId) × Nat × Nat × (State → Prop)
/-- the walk, from a world (layout, memory, its end), a place, the locals and the stack -/
def ja_W (C : ja_C) (cells slots : Nat) (lay : ja_Y) (mem : ja_M) (n pc : Nat) (ls : List (Option Value)) (st : List Value) : Prop := match C with
  | (p, l, e, R, s, m, args, below, meth, c, D, cA, B, nL, Q) => ∀ (H : Heap) (locs : List Loc) (lsA : Array Slot), ja_H D cA B lay mem n H → va_S (fun q => B ≤ q) s.heap H locs → lv_has lsA nL (ja_al 0 ls) → W p l e R s m args below meth c H locs cells slots Q (F0 m pc lsA st)
def ja_F (C : ja_C) (own : String) (cc : ByteArray) (nl : Nat) (rm : Room) : Prop := match C with
  | (p, l, e, R, s, m, args, below, meth, c, D, cA, B, nL, Q) => nL = nl ∧ R = rm ∧ p.tables.exec = Jvm.exec ∧ c.code = cc ∧ c.maxLocals = nL ∧ s.vm.findClass own = some m.cls ∧ (∀ w ∈ lw_tbg, w.before args s = true) ∧ ja_K D cA s ∧ meth.locks = false ∧ B ≤ s.heap.size
section
variable {C : ja_C} {own : String} {cc : ByteArray} {nl : Nat} {rm : Room} {cells slots n : Nat} {lay : ja_Y} {mem : ja_M} {pc : Nat} {ls : List (Option Value)} {st : List Value}
theorem r_iconst (F : ja_F C own cc nl rm) {z : Int} (d : decode cc pc = .ok (.iconst z, 1)) {pc' : Nat} (hpc : pc + 1 = pc') (k : ja_W C cells slots lay mem n pc' ls (.int (ja_I z) :: st)) : ja_W C cells slots lay mem n pc ls (st) := by
  subst hpc
  obtain ⟨p, l, e, R, s, m, args, below, meth, c, D, cA, B, nL, Q⟩ := C
  obtain ⟨hnl, hrm, hx, hb, hml, hown, hts, ⟨hK, hAO, hNw⟩, hlk, hB⟩ := F
  subst hnl; subst hrm
  intro H locs lsA hH hS hl
  exact lv_iconst hx hb d rfl (k H locs lsA hH hS hl)
theorem r_bipush (F : ja_F C own cc nl rm) {z : Int} (hz : -128 ≤ z ∧ z ≤ 127) (d : decode cc pc = .ok (.bipush z, 2)) {pc' : Nat} (hpc : pc + 2 = pc') (k : ja_W C cells slots lay mem n pc' ls (.int (ja_I z) :: st)) : ja_W C cells slots lay mem n pc ls (st) := by
  subst hpc
  obtain ⟨p, l, e, R, s, m, args, below, meth, c, D, cA, B, nL, Q⟩ := C
  obtain ⟨hnl, hrm, hx, hb, hml, hown, hts, ⟨hK, hAO, hNw⟩, hlk, hB⟩ := F
  subst hnl; subst hrm
  intro H locs lsA hH hS hl
  exact lv_bipush hx hb d (ja_byte hz) (k H locs lsA hH hS hl)
theorem r_sipush (F : ja_F C own cc nl rm) {z : Int} (hz : -32768 ≤ z ∧ z ≤ 32767) (d : decode cc pc = .ok (.sipush z, 3)) {pc' : Nat} (hpc : pc + 3 = pc') (k : ja_W C cells slots lay mem n pc' ls (.int (ja_I z) :: st)) : ja_W C cells slots lay mem n pc ls (st) := by
  subst hpc
  obtain ⟨p, l, e, R, s, m, args, below, meth, c, D, cA, B, nL, Q⟩ := C
  obtain ⟨hnl, hrm, hx, hb, hml, hown, hts, ⟨hK, hAO, hNw⟩, hlk, hB⟩ := F
  subst hnl; subst hrm
  intro H locs lsA hH hS hl
  exact lv_sipush hx hb d (ja_short hz) (k H locs lsA hH hS hl)
theorem r_lconst (F : ja_F C own cc nl rm) {z : Fin 2} {v : Int64} (hv : Int64.ofNat (z : Nat) = v) (d : decode cc pc = .ok (.lconst z, 1)) {pc' : Nat} (hpc : pc + 1 = pc') (k : ja_W C cells slots lay mem n pc' ls (.long v :: st)) : ja_W C cells slots lay mem n pc ls (st) := by
  subst hpc
  obtain ⟨p, l, e, R, s, m, args, below, meth, c, D, cA, B, nL, Q⟩ := C
  obtain ⟨hnl, hrm, hx, hb, hml, hown, hts, ⟨hK, hAO, hNw⟩, hlk, hB⟩ := F
  subst hnl; subst hrm
  intro H locs lsA hH hS hl
  exact lv_lconst hx hb d hv (k H locs lsA hH hS hl)
theorem r_ldc2 (F : ja_F C own cc nl rm) {index : Nat} {v : Int64} (hw : Cond.constantLong own index v ∈ lw_tbg) (d : decode cc pc = .ok (.ldc2_w index, 3)) {pc' : Nat} (hpc : pc + 3 = pc') (k : ja_W C cells slots lay mem n pc' ls (.long v :: st)) : ja_W C cells slots lay mem n pc ls (st) := by
  subst hpc
  obtain ⟨p, l, e, R, s, m, args, below, meth, c, D, cA, B, nL, Q⟩ := C
  obtain ⟨hnl, hrm, hx, hb, hml, hown, hts, ⟨hK, hAO, hNw⟩, hlk, hB⟩ := F
  subst hnl; subst hrm
  intro H locs lsA hH hS hl
  exact lv_ldc2 hx hb hown (hts _ hw) d (k H locs lsA hH hS hl)
theorem r_iload_n (F : ja_F C own cc nl rm) {q : Fin 4} {i : Nat} {x : Int32} (hi : (q : Nat) = i) (hv : ls[i]? = some (some (.int x))) (d : decode cc pc = .ok (.iload_n q, 1)) {pc' : Nat} (hpc : pc + 1 = pc') (k : ja_W C cells slots lay mem n pc' ls (.int x :: st)) : ja_W C cells slots lay mem n pc ls (st) := by
  subst hpc
  obtain ⟨p, l, e, R, s, m, args, below, meth, c, D, cA, B, nL, Q⟩ := C
  obtain ⟨hnl, hrm, hx, hb, hml, hown, hts, ⟨hK, hAO, hNw⟩, hlk, hB⟩ := F
  subst hnl; subst hrm
  intro H locs lsA hH hS hl
  exact lv_iload_n hx hb d hi (ja_has_at hl hv) (k H locs lsA hH hS hl)
theorem r_iload (F : ja_F C own cc nl rm) {i : Nat} {x : Int32} (hv : ls[i]? = some (some (.int x))) (d : decode cc pc = .ok (.iload i, 2)) {pc' : Nat} (hpc : pc + 2 = pc') (k : ja_W C cells slots lay mem n pc' ls (.int x :: st)) : ja_W C cells slots lay mem n pc ls (st) := by
  subst hpc
  obtain ⟨p, l, e, R, s, m, args, below, meth, c, D, cA, B, nL, Q⟩ := C
  obtain ⟨hnl, hrm, hx, hb, hml, hown, hts, ⟨hK, hAO, hNw⟩, hlk, hB⟩ := F
  subst hnl; subst hrm
  intro H locs lsA hH hS hl
  exact lv_iload hx hb d (ja_has_at hl hv) (k H locs lsA hH hS hl)
theorem r_lload_n (F : ja_F C own cc nl rm) {q : Fin 4} {i : Nat} {x : Int64} (hi : (q : Nat) = i) (hv : ls[i]? = some (some (.long x))) (d : decode cc pc = .ok (.lload_n q, 1)) {pc' : Nat} (hpc : pc + 1 = pc') (k : ja_W C cells slots lay mem n pc' ls (.long x :: st)) : ja_W C cells slots lay mem n pc ls (st) := by
  subst hpc
  obtain ⟨p, l, e, R, s, m, args, below, meth, c, D, cA, B, nL, Q⟩ := C
  obtain ⟨hnl, hrm, hx, hb, hml, hown, hts, ⟨hK, hAO, hNw⟩, hlk, hB⟩ := F
  subst hnl; subst hrm
  intro H locs lsA hH hS hl
  exact lv_lload_n hx hb d hi (ja_has_at hl hv) (k H locs lsA hH hS hl)
theorem r_lload (F : ja_F C own cc nl rm) {i : Nat} {x : Int64} (hv : ls[i]? = some (some (.long x))) (d : decode cc pc = .ok (.lload i, 2)) {pc' : Nat} (hpc : pc + 2 = pc') (k : ja_W C cells slots lay mem n pc' ls (.long x :: st)) : ja_W C cells slots lay mem n pc ls (st) := by
  subst hpc
  obtain ⟨p, l, e, R, s, m, args, below, meth, c, D, cA, B, nL, Q⟩ := C
  obtain ⟨hnl, hrm, hx, hb, hml, hown, hts, ⟨hK, hAO, hNw⟩, hlk, hB⟩ := F
  subst hnl; subst hrm
  intro H locs lsA hH hS hl
  exact lv_lload hx hb d (ja_has_at hl hv) (k H locs lsA hH hS hl)
theorem r_aload_n (F : ja_F C own cc nl rm) {q : Fin 4} {i : Nat} {x : Nat} (hi : (q : Nat) = i) (hv : ls[i]? = some (some (.ref x))) (d : decode cc pc = .ok (.aload_n q, 1)) {pc' : Nat} (hpc : pc + 1 = pc') (k : ja_W C cells slots lay mem n pc' ls (.ref x :: st)) : ja_W C cells slots lay mem n pc ls (st) := by
  subst hpc
  obtain ⟨p, l, e, R, s, m, args, below, meth, c, D, cA, B, nL, Q⟩ := C
  obtain ⟨hnl, hrm, hx, hb, hml, hown, hts, ⟨hK, hAO, hNw⟩, hlk, hB⟩ := F
  subst hnl; subst hrm
  intro H locs lsA hH hS hl
  exact lv_aload_n hx hb d hi (ja_has_at hl hv) (k H locs lsA hH hS hl)
theorem r_aload (F : ja_F C own cc nl rm) {i : Nat} {x : Nat} (hv : ls[i]? = some (some (.ref x))) (d : decode cc pc = .ok (.aload i, 2)) {pc' : Nat} (hpc : pc + 2 = pc') (k : ja_W C cells slots lay mem n pc' ls (.ref x :: st)) : ja_W C cells slots lay mem n pc ls (st) := by
  subst hpc
  obtain ⟨p, l, e, R, s, m, args, below, meth, c, D, cA, B, nL, Q⟩ := C
  obtain ⟨hnl, hrm, hx, hb, hml, hown, hts, ⟨hK, hAO, hNw⟩, hlk, hB⟩ := F
  subst hnl; subst hrm
  intro H locs lsA hH hS hl
  exact lv_aload hx hb d (ja_has_at hl hv) (k H locs lsA hH hS hl)
theorem ja_nL {lsA : Array Slot} {nL : Nat} {l : List (Nat × Value)} (h : lv_has lsA nL l) : lsA.size = nL := h.1
theorem r_istore_n (F : ja_F C own cc nl rm) {q : Fin 4} {i : Nat} {x : Int32} {ls' : List (Option Value)} (hi : (q : Nat) = i) (hn : i < nl) (hp : ja_pre ls i = true) (hs : (ls.set i (some (.int x))) = ls') (d : decode cc pc = .ok (.istore_n q, 1)) {pc' : Nat} (hpc : pc + 1 = pc') (k : ja_W C cells slots lay mem n pc' ls' (st)) : ja_W C cells slots lay mem n pc ls (.int x :: st) := by
  subst hpc
  obtain ⟨p, l, e, R, s, m, args, below, meth, c, D, cA, B, nL, Q⟩ := C
  obtain ⟨hnl, hrm, hx, hb, hml, hown, hts, ⟨hK, hAO, hNw⟩, hlk, hB⟩ := F
  subst hnl; subst hrm
  intro H locs lsA hH hS hl
  subst hs
  exact lv_istore_n hx hb d hi hl hn rfl (fun ls2 h2 => k H locs ls2 hH hS (ja_has_set h2 hp))
theorem r_istore (F : ja_F C own cc nl rm) {i : Nat} {x : Int32} {ls' : List (Option Value)} (hn : i < nl) (hp : ja_pre ls i = true) (hs : (ls.set i (some (.int x))) = ls') (d : decode cc pc = .ok (.istore i, 2)) {pc' : Nat} (hpc : pc + 2 = pc') (k : ja_W C cells slots lay mem n pc' ls' (st)) : ja_W C cells slots lay mem n pc ls (.int x :: st) := by
  subst hpc
  obtain ⟨p, l, e, R, s, m, args, below, meth, c, D, cA, B, nL, Q⟩ := C
  obtain ⟨hnl, hrm, hx, hb, hml, hown, hts, ⟨hK, hAO, hNw⟩, hlk, hB⟩ := F
  subst hnl; subst hrm
  intro H locs lsA hH hS hl
  subst hs
  exact lv_istore hx hb d hl hn rfl (fun ls2 h2 => k H locs ls2 hH hS (ja_has_set h2 hp))
theorem r_astore_n (F : ja_F C own cc nl rm) {q : Fin 4} {i : Nat} {x : Nat} {ls' : List (Option Value)} (hi : (q : Nat) = i) (hn : i < nl) (hp : ja_pre ls i = true) (hs : (ls.set i (some (.ref x))) = ls') (d : decode cc pc = .ok (.astore_n q, 1)) {pc' : Nat} (hpc : pc + 1 = pc') (k : ja_W C cells slots lay mem n pc' ls' (st)) : ja_W C cells slots lay mem n pc ls (.ref x :: st) := by
  subst hpc
  obtain ⟨p, l, e, R, s, m, args, below, meth, c, D, cA, B, nL, Q⟩ := C
  obtain ⟨hnl, hrm, hx, hb, hml, hown, hts, ⟨hK, hAO, hNw⟩, hlk, hB⟩ := F
  subst hnl; subst hrm
  intro H locs lsA hH hS hl
  subst hs
  exact lv_astore_n hx hb d hi hl hn rfl (fun ls2 h2 => k H locs ls2 hH hS (ja_has_set h2 hp))
theorem r_astore (F : ja_F C own cc nl rm) {i : Nat} {x : Nat} {ls' : List (Option Value)} (hn : i < nl) (hp : ja_pre ls i = true) (hs : (ls.set i (some (.ref x))) = ls') (d : decode cc pc = .ok (.astore i, 2)) {pc' : Nat} (hpc : pc + 2 = pc') (k : ja_W C cells slots lay mem n pc' ls' (st)) : ja_W C cells slots lay mem n pc ls (.ref x :: st) := by
  subst hpc
  obtain ⟨p, l, e, R, s, m, args, below, meth, c, D, cA, B, nL, Q⟩ := C
  obtain ⟨hnl, hrm, hx, hb, hml, hown, hts, ⟨hK, hAO, hNw⟩, hlk, hB⟩ := F
  subst hnl; subst hrm
  intro H locs lsA hH hS hl
  subst hs
  exact lv_astore hx hb d hl hn rfl (fun ls2 h2 => k H locs ls2 hH hS (ja_has_set h2 hp))
theorem r_lstore_n (F : ja_F C own cc nl rm) {q : Fin 4} {i : Nat} {x : Int64} {ls' : List (Option Value)} (hi : (q : Nat) = i) (hn : i + 1 < nl) (hp : ja_pre ls i = true) (hs : ((ls.set i (some (.long x))).set (i + 1) none) = ls') (d : decode cc pc = .ok (.lstore_n q, 1)) {pc' : Nat} (hpc : pc + 1 = pc') (k : ja_W C cells slots lay mem n pc' ls' (st)) : ja_W C cells slots lay mem n pc ls (.long x :: st) := by
  subst hpc
  obtain ⟨p, l, e, R, s, m, args, below, meth, c, D, cA, B, nL, Q⟩ := C
  obtain ⟨hnl, hrm, hx, hb, hml, hown, hts, ⟨hK, hAO, hNw⟩, hlk, hB⟩ := F
  subst hnl; subst hrm
  intro H locs lsA hH hS hl
  subst hs
  exact lv_lstore_n hx hb d hi hl hn rfl (fun ls2 h2 => k H locs ls2 hH hS (ja_has_setL h2 hp))
theorem r_lstore (F : ja_F C own cc nl rm) {i : Nat} {x : Int64} {ls' : List (Option Value)} (hn : i + 1 < nl) (hp : ja_pre ls i = true) (hs : ((ls.set i (some (.long x))).set (i + 1) none) = ls') (d : decode cc pc = .ok (.lstore i, 2)) {pc' : Nat} (hpc : pc + 2 = pc') (k : ja_W C cells slots lay mem n pc' ls' (st)) : ja_W C cells slots lay mem n pc ls (.long x :: st) := by
  subst hpc
  obtain ⟨p, l, e, R, s, m, args, below, meth, c, D, cA, B, nL, Q⟩ := C
  obtain ⟨hnl, hrm, hx, hb, hml, hown, hts, ⟨hK, hAO, hNw⟩, hlk, hB⟩ := F
  subst hnl; subst hrm
  intro H locs lsA hH hS hl
  subst hs
  exact lv_lstore hx hb d hl hn rfl (fun ls2 h2 => k H locs ls2 hH hS (ja_has_setL h2 hp))
theorem r_iinc (F : ja_F C own cc nl rm) {i : Nat} {dz x : Int} {ls' : List (Option Value)} (hv : ls[i]? = some (some (.int (ja_I x)))) (hn : i < nl) (hp : ja_pre ls i = true) (hs : ls.set i (some (.int (ja_I (x + dz)))) = ls') (d : decode cc pc = .ok (.iinc i dz, 3)) {pc' : Nat} (hpc : pc + 3 = pc') (k : ja_W C cells slots lay mem n pc' ls' (st)) : ja_W C cells slots lay mem n pc ls (st) := by
  subst hpc
  obtain ⟨p, l, e, R, s, m, args, below, meth, c, D, cA, B, nL, Q⟩ := C
  obtain ⟨hnl, hrm, hx, hb, hml, hown, hts, ⟨hK, hAO, hNw⟩, hlk, hB⟩ := F
  subst hnl; subst hrm
  intro H locs lsA hH hS hl
  subst hs
  obtain ⟨q, hq⟩ := List.getElem?_of_mem ((ja_al_mem ls 0 (i, .int (ja_I x))).mpr ⟨i, by simp, hv⟩)
  exact lv_iinc (k := q) (v := ja_I (x + dz)) hx hb d hl hq (ja_add x dz) hn rfl (fun ls2 h2 => k H locs ls2 hH hS (ja_has_set h2 hp))
theorem r_iadd (F : ja_F C own cc nl rm) {a b : Int} (d : decode cc pc = .ok (.iadd, 1)) {pc' : Nat} (hpc : pc + 1 = pc') (k : ja_W C cells slots lay mem n pc' ls (.int (ja_I (a + b)) :: st)) : ja_W C cells slots lay mem n pc ls (.int (ja_I b) :: .int (ja_I a) :: st) := by
  subst hpc
  obtain ⟨p, l, e, R, s, m, args, below, meth, c, D, cA, B, nL, Q⟩ := C
  obtain ⟨hnl, hrm, hx, hb, hml, hown, hts, ⟨hK, hAO, hNw⟩, hlk, hB⟩ := F
  subst hnl; subst hrm
  intro H locs lsA hH hS hl
  exact lv_iadd hx hb d (by rw [ja_add]; exact (k H locs lsA hH hS hl))
theorem r_isub (F : ja_F C own cc nl rm) {a b : Int} (d : decode cc pc = .ok (.isub, 1)) {pc' : Nat} (hpc : pc + 1 = pc') (k : ja_W C cells slots lay mem n pc' ls (.int (ja_I (a - b)) :: st)) : ja_W C cells slots lay mem n pc ls (.int (ja_I b) :: .int (ja_I a) :: st) := by
  subst hpc
  obtain ⟨p, l, e, R, s, m, args, below, meth, c, D, cA, B, nL, Q⟩ := C
  obtain ⟨hnl, hrm, hx, hb, hml, hown, hts, ⟨hK, hAO, hNw⟩, hlk, hB⟩ := F
  subst hnl; subst hrm
  intro H locs lsA hH hS hl
  exact lv_isub hx hb d (by rw [ja_sub]; exact (k H locs lsA hH hS hl))
theorem r_imul (F : ja_F C own cc nl rm) {a b : Int} (d : decode cc pc = .ok (.imul, 1)) {pc' : Nat} (hpc : pc + 1 = pc') (k : ja_W C cells slots lay mem n pc' ls (.int (ja_I (a * b)) :: st)) : ja_W C cells slots lay mem n pc ls (.int (ja_I b) :: .int (ja_I a) :: st) := by
  subst hpc
  obtain ⟨p, l, e, R, s, m, args, below, meth, c, D, cA, B, nL, Q⟩ := C
  obtain ⟨hnl, hrm, hx, hb, hml, hown, hts, ⟨hK, hAO, hNw⟩, hlk, hB⟩ := F
  subst hnl; subst hrm
  intro H locs lsA hH hS hl
  exact lv_imul hx hb d (by rw [ja_mul]; exact (k H locs lsA hH hS hl))
theorem r_idiv (F : ja_F C own cc nl rm) {a b : Int} (ha : ja_in a) (hbi : ja_in b) (h0 : 0 < b) (d : decode cc pc = .ok (.idiv, 1)) {pc' : Nat} (hpc : pc + 1 = pc') (k : ja_W C cells slots lay mem n pc' ls (.int (ja_I (a.tdiv b)) :: st)) : ja_W C cells slots lay mem n pc ls (.int (ja_I b) :: .int (ja_I a) :: st) := by
  subst hpc
  obtain ⟨p, l, e, R, s, m, args, below, meth, c, D, cA, B, nL, Q⟩ := C
  obtain ⟨hnl, hrm, hx, hb, hml, hown, hts, ⟨hK, hAO, hNw⟩, hlk, hB⟩ := F
  subst hnl; subst hrm
  intro H locs lsA hH hS hl
  exact lv_idiv hx hb d (ja_ne0 hbi (by omega)) (by rw [ja_div ha hbi h0]; exact (k H locs lsA hH hS hl))
theorem r_irem (F : ja_F C own cc nl rm) {a b : Int} (ha : ja_in a) (hbi : ja_in b) (h0 : 0 < b) (d : decode cc pc = .ok (.irem, 1)) {pc' : Nat} (hpc : pc + 1 = pc') (k : ja_W C cells slots lay mem n pc' ls (.int (ja_I (a.tmod b)) :: st)) : ja_W C cells slots lay mem n pc ls (.int (ja_I b) :: .int (ja_I a) :: st) := by
  subst hpc
  obtain ⟨p, l, e, R, s, m, args, below, meth, c, D, cA, B, nL, Q⟩ := C
  obtain ⟨hnl, hrm, hx, hb, hml, hown, hts, ⟨hK, hAO, hNw⟩, hlk, hB⟩ := F
  subst hnl; subst hrm
  intro H locs lsA hH hS hl
  exact lv_irem hx hb d (ja_ne0 hbi (by omega)) (by rw [ja_rem ha hbi h0]; exact (k H locs lsA hH hS hl))
theorem r_idivP (F : ja_F C own cc nl rm) {a b : Int} (ha : ja_in a) (hbi : ja_in b) (h0 : 0 < b) (ha0 : 0 ≤ a) (d : decode cc pc = .ok (.idiv, 1)) {pc' : Nat} (hpc : pc + 1 = pc') (k : ja_W C cells slots lay mem n pc' ls (.int (ja_I (a / b)) :: st)) : ja_W C cells slots lay mem n pc ls (.int (ja_I b) :: .int (ja_I a) :: st) := by
  subst hpc
  obtain ⟨p, l, e, R, s, m, args, below, meth, c, D, cA, B, nL, Q⟩ := C
  obtain ⟨hnl, hrm, hx, hb, hml, hown, hts, ⟨hK, hAO, hNw⟩, hlk, hB⟩ := F
  subst hnl; subst hrm
  intro H locs lsA hH hS hl
  exact lv_idiv hx hb d (ja_ne0 hbi (by omega)) (by rw [ja_div ha hbi h0, Int.tdiv_eq_ediv_of_nonneg ha0]; exact (k H locs lsA hH hS hl))
theorem r_iremP (F : ja_F C own cc nl rm) {a b : Int} (ha : ja_in a) (hbi : ja_in b) (h0 : 0 < b) (ha0 : 0 ≤ a) (d : decode cc pc = .ok (.irem, 1)) {pc' : Nat} (hpc : pc + 1 = pc') (k : ja_W C cells slots lay mem n pc' ls (.int (ja_I (a % b)) :: st)) : ja_W C cells slots lay mem n pc ls (.int (ja_I b) :: .int (ja_I a) :: st) := by
  subst hpc
  obtain ⟨p, l, e, R, s, m, args, below, meth, c, D, cA, B, nL, Q⟩ := C
  obtain ⟨hnl, hrm, hx, hb, hml, hown, hts, ⟨hK, hAO, hNw⟩, hlk, hB⟩ := F
  subst hnl; subst hrm
  intro H locs lsA hH hS hl
  exact lv_irem hx hb d (ja_ne0 hbi (by omega)) (by rw [ja_rem ha hbi h0, Int.tmod_eq_emod_of_nonneg ha0]; exact (k H locs lsA hH hS hl))
theorem r_ineg (F : ja_F C own cc nl rm) {a : Int} (d : decode cc pc = .ok (.ineg, 1)) {pc' : Nat} (hpc : pc + 1 = pc') (k : ja_W C cells slots lay mem n pc' ls (.int (ja_I (-a)) :: st)) : ja_W C cells slots lay mem n pc ls (.int (ja_I a) :: st) := by
  subst hpc
  obtain ⟨p, l, e, R, s, m, args, below, meth, c, D, cA, B, nL, Q⟩ := C
  obtain ⟨hnl, hrm, hx, hb, hml, hown, hts, ⟨hK, hAO, hNw⟩, hlk, hB⟩ := F
  subst hnl; subst hrm
  intro H locs lsA hH hS hl
  exact lv_ineg hx hb d (by rw [ja_neg]; exact (k H locs lsA hH hS hl))
theorem r_iand (F : ja_F C own cc nl rm) {a b : Int32} {z : Int} (hz : a &&& b = ja_I z) (d : decode cc pc = .ok (.iand, 1)) {pc' : Nat} (hpc : pc + 1 = pc') (k : ja_W C cells slots lay mem n pc' ls (.int (ja_I z) :: st)) : ja_W C cells slots lay mem n pc ls (.int b :: .int a :: st) := by
  subst hpc
  obtain ⟨p, l, e, R, s, m, args, below, meth, c, D, cA, B, nL, Q⟩ := C
  obtain ⟨hnl, hrm, hx, hb, hml, hown, hts, ⟨hK, hAO, hNw⟩, hlk, hB⟩ := F
  subst hnl; subst hrm
  intro H locs lsA hH hS hl
  exact lv_iand hx hb d (by rw [hz]; exact (k H locs lsA hH hS hl))
theorem r_ior (F : ja_F C own cc nl rm) {a b : Int32} {z : Int} (hz : a ||| b = ja_I z) (d : decode cc pc = .ok (.ior, 1)) {pc' : Nat} (hpc : pc + 1 = pc') (k : ja_W C cells slots lay mem n pc' ls (.int (ja_I z) :: st)) : ja_W C cells slots lay mem n pc ls (.int b :: .int a :: st) := by
  subst hpc
  obtain ⟨p, l, e, R, s, m, args, below, meth, c, D, cA, B, nL, Q⟩ := C
  obtain ⟨hnl, hrm, hx, hb, hml, hown, hts, ⟨hK, hAO, hNw⟩, hlk, hB⟩ := F
  subst hnl; subst hrm
  intro H locs lsA hH hS hl
  exact lv_ior hx hb d (by rw [hz]; exact (k H locs lsA hH hS hl))
theorem r_ixor (F : ja_F C own cc nl rm) {a b : Int32} {z : Int} (hz : a ^^^ b = ja_I z) (d : decode cc pc = .ok (.ixor, 1)) {pc' : Nat} (hpc : pc + 1 = pc') (k : ja_W C cells slots lay mem n pc' ls (.int (ja_I z) :: st)) : ja_W C cells slots lay mem n pc ls (.int b :: .int a :: st) := by
  subst hpc
  obtain ⟨p, l, e, R, s, m, args, below, meth, c, D, cA, B, nL, Q⟩ := C
  obtain ⟨hnl, hrm, hx, hb, hml, hown, hts, ⟨hK, hAO, hNw⟩, hlk, hB⟩ := F
  subst hnl; subst hrm
  intro H locs lsA hH hS hl
  exact lv_ixor hx hb d (by rw [hz]; exact (k H locs lsA hH hS hl))
theorem r_ishl (F : ja_F C own cc nl rm) {a b : Int32} {z : Int} (hz : a <<< (b &&& 31) = ja_I z) (d : decode cc pc = .ok (.ishl, 1)) {pc' : Nat} (hpc : pc + 1 = pc') (k : ja_W C cells slots lay mem n pc' ls (.int (ja_I z) :: st)) : ja_W C cells slots lay mem n pc ls (.int b :: .int a :: st) := by
  subst hpc
  obtain ⟨p, l, e, R, s, m, args, below, meth, c, D, cA, B, nL, Q⟩ := C
  obtain ⟨hnl, hrm, hx, hb, hml, hown, hts, ⟨hK, hAO, hNw⟩, hlk, hB⟩ := F
  subst hnl; subst hrm
  intro H locs lsA hH hS hl
  exact lv_ishl hx hb d (by rw [hz]; exact (k H locs lsA hH hS hl))
theorem r_ladd (F : ja_F C own cc nl rm) {a b : Int64} (d : decode cc pc = .ok (.ladd, 1)) {pc' : Nat} (hpc : pc + 1 = pc') (k : ja_W C cells slots lay mem n pc' ls (.long (a + b) :: st)) : ja_W C cells slots lay mem n pc ls (.long b :: .long a :: st) := by
  subst hpc
  obtain ⟨p, l, e, R, s, m, args, below, meth, c, D, cA, B, nL, Q⟩ := C
  obtain ⟨hnl, hrm, hx, hb, hml, hown, hts, ⟨hK, hAO, hNw⟩, hlk, hB⟩ := F
  subst hnl; subst hrm
  intro H locs lsA hH hS hl
  exact lv_ladd hx hb d (k H locs lsA hH hS hl)
theorem r_lsub (F : ja_F C own cc nl rm) {a b : Int64} (d : decode cc pc = .ok (.lsub, 1)) {pc' : Nat} (hpc : pc + 1 = pc') (k : ja_W C cells slots lay mem n pc' ls (.long (a - b) :: st)) : ja_W C cells slots lay mem n pc ls (.long b :: .long a :: st) := by
  subst hpc
  obtain ⟨p, l, e, R, s, m, args, below, meth, c, D, cA, B, nL, Q⟩ := C
  obtain ⟨hnl, hrm, hx, hb, hml, hown, hts, ⟨hK, hAO, hNw⟩, hlk, hB⟩ := F
  subst hnl; subst hrm
  intro H locs lsA hH hS hl
  exact lv_lsub hx hb d (k H locs lsA hH hS hl)
theorem r_lmul (F : ja_F C own cc nl rm) {a b : Int64} (d : decode cc pc = .ok (.lmul, 1)) {pc' : Nat} (hpc : pc + 1 = pc') (k : ja_W C cells slots lay mem n pc' ls (.long (a * b) :: st)) : ja_W C cells slots lay mem n pc ls (.long b :: .long a :: st) := by
  subst hpc
  obtain ⟨p, l, e, R, s, m, args, below, meth, c, D, cA, B, nL, Q⟩ := C
  obtain ⟨hnl, hrm, hx, hb, hml, hown, hts, ⟨hK, hAO, hNw⟩, hlk, hB⟩ := F
  subst hnl; subst hrm
  intro H locs lsA hH hS hl
  exact lv_lmul hx hb d (k H locs lsA hH hS hl)
theorem r_land (F : ja_F C own cc nl rm) {a b : Int64} (d : decode cc pc = .ok (.land, 1)) {pc' : Nat} (hpc : pc + 1 = pc') (k : ja_W C cells slots lay mem n pc' ls (.long (a &&& b) :: st)) : ja_W C cells slots lay mem n pc ls (.long b :: .long a :: st) := by
  subst hpc
  obtain ⟨p, l, e, R, s, m, args, below, meth, c, D, cA, B, nL, Q⟩ := C
  obtain ⟨hnl, hrm, hx, hb, hml, hown, hts, ⟨hK, hAO, hNw⟩, hlk, hB⟩ := F
  subst hnl; subst hrm
  intro H locs lsA hH hS hl
  exact lv_land hx hb d (k H locs lsA hH hS hl)
theorem r_lor (F : ja_F C own cc nl rm) {a b : Int64} (d : decode cc pc = .ok (.lor, 1)) {pc' : Nat} (hpc : pc + 1 = pc') (k : ja_W C cells slots lay mem n pc' ls (.long (a ||| b) :: st)) : ja_W C cells slots lay mem n pc ls (.long b :: .long a :: st) := by
  subst hpc
  obtain ⟨p, l, e, R, s, m, args, below, meth, c, D, cA, B, nL, Q⟩ := C
  obtain ⟨hnl, hrm, hx, hb, hml, hown, hts, ⟨hK, hAO, hNw⟩, hlk, hB⟩ := F
  subst hnl; subst hrm
  intro H locs lsA hH hS hl
  exact lv_lor hx hb d (k H locs lsA hH hS hl)
theorem r_lxor (F : ja_F C own cc nl rm) {a b : Int64} (d : decode cc pc = .ok (.lxor, 1)) {pc' : Nat} (hpc : pc + 1 = pc') (k : ja_W C cells slots lay mem n pc' ls (.long (a ^^^ b) :: st)) : ja_W C cells slots lay mem n pc ls (.long b :: .long a :: st) := by
  subst hpc
  obtain ⟨p, l, e, R, s, m, args, below, meth, c, D, cA, B, nL, Q⟩ := C
  obtain ⟨hnl, hrm, hx, hb, hml, hown, hts, ⟨hK, hAO, hNw⟩, hlk, hB⟩ := F
  subst hnl; subst hrm
  intro H locs lsA hH hS hl
  exact lv_lxor hx hb d (k H locs lsA hH hS hl)
theorem r_lshl (F : ja_F C own cc nl rm) {a : Int64} {b : Int32} (d : decode cc pc = .ok (.lshl, 1)) {pc' : Nat} (hpc : pc + 1 = pc') (k : ja_W C cells slots lay mem n pc' ls (.long (a <<< (b.toInt64 &&& 63)) :: st)) : ja_W C cells slots lay mem n pc ls (.int b :: .long a :: st) := by
  subst hpc
  obtain ⟨p, l, e, R, s, m, args, below, meth, c, D, cA, B, nL, Q⟩ := C
  obtain ⟨hnl, hrm, hx, hb, hml, hown, hts, ⟨hK, hAO, hNw⟩, hlk, hB⟩ := F
  subst hnl; subst hrm
  intro H locs lsA hH hS hl
  exact lv_lshl hx hb d rfl (k H locs lsA hH hS hl)
theorem r_lshr (F : ja_F C own cc nl rm) {a : Int64} {b : Int32} (d : decode cc pc = .ok (.lshr, 1)) {pc' : Nat} (hpc : pc + 1 = pc') (k : ja_W C cells slots lay mem n pc' ls (.long (a >>> (b.toInt64 &&& 63)) :: st)) : ja_W C cells slots lay mem n pc ls (.int b :: .long a :: st) := by
  subst hpc
  obtain ⟨p, l, e, R, s, m, args, below, meth, c, D, cA, B, nL, Q⟩ := C
  obtain ⟨hnl, hrm, hx, hb, hml, hown, hts, ⟨hK, hAO, hNw⟩, hlk, hB⟩ := F
  subst hnl; subst hrm
  intro H locs lsA hH hS hl
  exact lv_lshr hx hb d rfl (k H locs lsA hH hS hl)
theorem r_lushr (F : ja_F C own cc nl rm) {a : Int64} {b : Int32} (d : decode cc pc = .ok (.lushr, 1)) {pc' : Nat} (hpc : pc + 1 = pc') (k : ja_W C cells slots lay mem n pc' ls (.long ((a.toUInt64 >>> (b.toInt64.toUInt64 &&& Int64.toUInt64 63)).toInt64) :: st)) : ja_W C cells slots lay mem n pc ls (.int b :: .long a :: st) := by
  subst hpc
  obtain ⟨p, l, e, R, s, m, args, below, meth, c, D, cA, B, nL, Q⟩ := C
  obtain ⟨hnl, hrm, hx, hb, hml, hown, hts, ⟨hK, hAO, hNw⟩, hlk, hB⟩ := F
  subst hnl; subst hrm
  intro H locs lsA hH hS hl
  exact lv_lushr hx hb d rfl (k H locs lsA hH hS hl)
theorem r_i2l (F : ja_F C own cc nl rm) {a : Int32} (d : decode cc pc = .ok (.i2l, 1)) {pc' : Nat} (hpc : pc + 1 = pc') (k : ja_W C cells slots lay mem n pc' ls (.long a.toInt64 :: st)) : ja_W C cells slots lay mem n pc ls (.int a :: st) := by
  subst hpc
  obtain ⟨p, l, e, R, s, m, args, below, meth, c, D, cA, B, nL, Q⟩ := C
  obtain ⟨hnl, hrm, hx, hb, hml, hown, hts, ⟨hK, hAO, hNw⟩, hlk, hB⟩ := F
  subst hnl; subst hrm
  intro H locs lsA hH hS hl
  exact lv_i2l hx hb d rfl (k H locs lsA hH hS hl)
theorem r_l2i (F : ja_F C own cc nl rm) {a : Int64} (d : decode cc pc = .ok (.l2i, 1)) {pc' : Nat} (hpc : pc + 1 = pc') (k : ja_W C cells slots lay mem n pc' ls (.int a.toInt32 :: st)) : ja_W C cells slots lay mem n pc ls (.long a :: st) := by
  subst hpc
  obtain ⟨p, l, e, R, s, m, args, below, meth, c, D, cA, B, nL, Q⟩ := C
  obtain ⟨hnl, hrm, hx, hb, hml, hown, hts, ⟨hK, hAO, hNw⟩, hlk, hB⟩ := F
  subst hnl; subst hrm
  intro H locs lsA hH hS hl
  exact lv_l2i hx hb d rfl (k H locs lsA hH hS hl)
theorem r_lcmp (F : ja_F C own cc nl rm) {a b : Int64} (d : decode cc pc = .ok (.lcmp, 1)) {pc' : Nat} (hpc : pc + 1 = pc') (k : ja_W C cells slots lay mem n pc' ls (.int (lg_cmp a b) :: st)) : ja_W C cells slots lay mem n pc ls (.long b :: .long a :: st) := by
  subst hpc
  obtain ⟨p, l, e, R, s, m, args, below, meth, c, D, cA, B, nL, Q⟩ := C
  obtain ⟨hnl, hrm, hx, hb, hml, hown, hts, ⟨hK, hAO, hNw⟩, hlk, hB⟩ := F
  subst hnl; subst hrm
  intro H locs lsA hH hS hl
  exact W.lcmp hx hb d (k H locs lsA hH hS hl)
theorem r_dup (F : ja_F C own cc nl rm) {v : Value} (hc : v.category = 1) (d : decode cc pc = .ok (.dup, 1)) {pc' : Nat} (hpc : pc + 1 = pc') (k : ja_W C cells slots lay mem n pc' ls (v :: v :: st)) : ja_W C cells slots lay mem n pc ls (v :: st) := by
  subst hpc
  obtain ⟨p, l, e, R, s, m, args, below, meth, c, D, cA, B, nL, Q⟩ := C
  obtain ⟨hnl, hrm, hx, hb, hml, hown, hts, ⟨hK, hAO, hNw⟩, hlk, hB⟩ := F
  subst hnl; subst hrm
  intro H locs lsA hH hS hl
  exact lv_dup hx hb d hc (k H locs lsA hH hS hl)
theorem r_dup2 (F : ja_F C own cc nl rm) {u v : Value} (hu : u.category = 1) (hc : v.category = 1) (d : decode cc pc = .ok (.dup2, 1)) {pc' : Nat} (hpc : pc + 1 = pc') (k : ja_W C cells slots lay mem n pc' ls (u :: v :: u :: v :: st)) : ja_W C cells slots lay mem n pc ls (u :: v :: st) := by
  subst hpc
  obtain ⟨p, l, e, R, s, m, args, below, meth, c, D, cA, B, nL, Q⟩ := C
  obtain ⟨hnl, hrm, hx, hb, hml, hown, hts, ⟨hK, hAO, hNw⟩, hlk, hB⟩ := F
  subst hnl; subst hrm
  intro H locs lsA hH hS hl
  exact lv_dup2_11 hx hb d hu hc (k H locs lsA hH hS hl)
theorem r_dup2L (F : ja_F C own cc nl rm) {v : Value} (hc : v.category = 2) (d : decode cc pc = .ok (.dup2, 1)) {pc' : Nat} (hpc : pc + 1 = pc') (k : ja_W C cells slots lay mem n pc' ls (v :: v :: st)) : ja_W C cells slots lay mem n pc ls (v :: st) := by
  subst hpc
  obtain ⟨p, l, e, R, s, m, args, below, meth, c, D, cA, B, nL, Q⟩ := C
  obtain ⟨hnl, hrm, hx, hb, hml, hown, hts, ⟨hK, hAO, hNw⟩, hlk, hB⟩ := F
  subst hnl; subst hrm
  intro H locs lsA hH hS hl
  exact lv_dup2_2 hx hb d hc (k H locs lsA hH hS hl)
theorem r_pop (F : ja_F C own cc nl rm) {v : Value} (hc : v.category = 1) (d : decode cc pc = .ok (.pop, 1)) {pc' : Nat} (hpc : pc + 1 = pc') (k : ja_W C cells slots lay mem n pc' ls (st)) : ja_W C cells slots lay mem n pc ls (v :: st) := by
  subst hpc
  obtain ⟨p, l, e, R, s, m, args, below, meth, c, D, cA, B, nL, Q⟩ := C
  obtain ⟨hnl, hrm, hx, hb, hml, hown, hts, ⟨hK, hAO, hNw⟩, hlk, hB⟩ := F
  subst hnl; subst hrm
  intro H locs lsA hH hS hl
  exact lv_pop hx hb d hc (k H locs lsA hH hS hl)
theorem r_eqi {x : Int32} {z : Int} (h : x = ja_I z) (k : ja_W C cells slots lay mem n pc ls (.int (ja_I z) :: st)) : ja_W C cells slots lay mem n pc ls (.int x :: st) := by rw [h]; exact k
theorem r_eql {x y : Int64} (h : x = y) (k : ja_W C cells slots lay mem n pc ls (.long y :: st)) : ja_W C cells slots lay mem n pc ls (.long x :: st) := by rw [h]; exact k
theorem r_eqz {x z : Int} (h : x = z) (k : ja_W C cells slots lay mem n pc ls (.int (ja_I z) :: st)) : ja_W C cells slots lay mem n pc ls (.int (ja_I x) :: st) := by rw [h]; exact k
theorem r_pc {pc' : Nat} (h : pc = pc') (k : ja_W C cells slots lay mem n pc' ls st) : ja_W C cells slots lay mem n pc ls st := h ▸ k
theorem r_mem {mem' : ja_M} (h : mem = mem') (k : ja_W C cells slots lay mem' n pc ls st) : ja_W C cells slots lay mem n pc ls st := h ▸ k
theorem r_icmp_eq (F : ja_F C own cc nl rm) {a b : Int} (ha1 : ja_in a) (hb1 : ja_in b) {off : Int} {tgt : Nat} (d : decode cc pc = .ok (.if_icmp .eq off, 3)) {pc' : Nat} (hpc : pc + 3 = pc') (ht : (pc : Int) + off = (tgt : Int)) (kt : a = b → ja_W C cells slots lay mem n tgt ls st) (kf : ¬ (a = b) → ja_W C cells slots lay mem n pc' ls st) : ja_W C cells slots lay mem n pc ls (.int (ja_I b) :: .int (ja_I a) :: st) := by
  subst hpc
  obtain ⟨p, l, e, R, s, m, args, below, meth, c, D, cA, B, nL, Q⟩ := C
  obtain ⟨hnl, hrm, hx, hb, hml, hown, hts, ⟨hK, hAO, hNw⟩, hlk, hB⟩ := F
  subst hnl; subst hrm
  intro H locs lsA hH hS hl
  exact lv_icmp_eq hx hb d ht (fun h => kt ((ja_eq ha1 hb1).mp h) H locs lsA hH hS hl) (fun h => kf (fun q => h ((ja_eq ha1 hb1).mpr q)) H locs lsA hH hS hl)
theorem r_if_eq (F : ja_F C own cc nl rm) {a : Int} (ha1 : ja_in a) {off : Int} {tgt : Nat} (d : decode cc pc = .ok (.ifCond .eq off, 3)) {pc' : Nat} (hpc : pc + 3 = pc') (ht : (pc : Int) + off = (tgt : Int)) (kt : a = 0 → ja_W C cells slots lay mem n tgt ls st) (kf : ¬ (a = 0) → ja_W C cells slots lay mem n pc' ls st) : ja_W C cells slots lay mem n pc ls (.int (ja_I a) :: st) := by
  subst hpc
  obtain ⟨p, l, e, R, s, m, args, below, meth, c, D, cA, B, nL, Q⟩ := C
  obtain ⟨hnl, hrm, hx, hb, hml, hown, hts, ⟨hK, hAO, hNw⟩, hlk, hB⟩ := F
  subst hnl; subst hrm
  intro H locs lsA hH hS hl
  exact lv_if_eq hx hb d ht (fun h => kt ((ja_eq ha1 ja_in0).mp h) H locs lsA hH hS hl) (fun h => kf (fun q => h ((ja_eq ha1 ja_in0).mpr q)) H locs lsA hH hS hl)
theorem r_icmp_ne (F : ja_F C own cc nl rm) {a b : Int} (ha1 : ja_in a) (hb1 : ja_in b) {off : Int} {tgt : Nat} (d : decode cc pc = .ok (.if_icmp .ne off, 3)) {pc' : Nat} (hpc : pc + 3 = pc') (ht : (pc : Int) + off = (tgt : Int)) (kt : ¬ a = b → ja_W C cells slots lay mem n tgt ls st) (kf : a = b → ja_W C cells slots lay mem n pc' ls st) : ja_W C cells slots lay mem n pc ls (.int (ja_I b) :: .int (ja_I a) :: st) := by
  subst hpc
  obtain ⟨p, l, e, R, s, m, args, below, meth, c, D, cA, B, nL, Q⟩ := C
  obtain ⟨hnl, hrm, hx, hb, hml, hown, hts, ⟨hK, hAO, hNw⟩, hlk, hB⟩ := F
  subst hnl; subst hrm
  intro H locs lsA hH hS hl
  exact lv_icmp_ne hx hb d ht (fun h => kt (fun q => h ((ja_eq ha1 hb1).mpr q)) H locs lsA hH hS hl) (fun h => kf ((ja_eq ha1 hb1).mp h) H locs lsA hH hS hl)
theorem r_if_ne (F : ja_F C own cc nl rm) {a : Int} (ha1 : ja_in a) {off : Int} {tgt : Nat} (d : decode cc pc = .ok (.ifCond .ne off, 3)) {pc' : Nat} (hpc : pc + 3 = pc') (ht : (pc : Int) + off = (tgt : Int)) (kt : ¬ a = 0 → ja_W C cells slots lay mem n tgt ls st) (kf : a = 0 → ja_W C cells slots lay mem n pc' ls st) : ja_W C cells slots lay mem n pc ls (.int (ja_I a) :: st) := by
  subst hpc
  obtain ⟨p, l, e, R, s, m, args, below, meth, c, D, cA, B, nL, Q⟩ := C
  obtain ⟨hnl, hrm, hx, hb, hml, hown, hts, ⟨hK, hAO, hNw⟩, hlk, hB⟩ := F
  subst hnl; subst hrm
  intro H locs lsA hH hS hl
  exact lv_if_ne hx hb d ht (fun h => kt (fun q => h ((ja_eq ha1 ja_in0).mpr q)) H locs lsA hH hS hl) (fun h => kf ((ja_eq ha1 ja_in0).mp h) H locs lsA hH hS hl)
theorem r_icmp_lt (F : ja_F C own cc nl rm) {a b : Int} (ha1 : ja_in a) (hb1 : ja_in b) {off : Int} {tgt : Nat} (d : decode cc pc = .ok (.if_icmp .lt off, 3)) {pc' : Nat} (hpc : pc + 3 = pc') (ht : (pc : Int) + off = (tgt : Int)) (kt : a < b → ja_W C cells slots lay mem n tgt ls st) (kf : ¬ (a < b) → ja_W C cells slots lay mem n pc' ls st) : ja_W C cells slots lay mem n pc ls (.int (ja_I b) :: .int (ja_I a) :: st) := by
  subst hpc
  obtain ⟨p, l, e, R, s, m, args, below, meth, c, D, cA, B, nL, Q⟩ := C
  obtain ⟨hnl, hrm, hx, hb, hml, hown, hts, ⟨hK, hAO, hNw⟩, hlk, hB⟩ := F
  subst hnl; subst hrm
  intro H locs lsA hH hS hl
  exact lv_icmp_lt hx hb d ht (fun h => kt ((ja_lt ha1 hb1).mp h) H locs lsA hH hS hl) (fun h => kf (fun q => h ((ja_lt ha1 hb1).mpr q)) H locs lsA hH hS hl)
theorem r_if_lt (F : ja_F C own cc nl rm) {a : Int} (ha1 : ja_in a) {off : Int} {tgt : Nat} (d : decode cc pc = .ok (.ifCond .lt off, 3)) {pc' : Nat} (hpc : pc + 3 = pc') (ht : (pc : Int) + off = (tgt : Int)) (kt : a < 0 → ja_W C cells slots lay mem n tgt ls st) (kf : ¬ (a < 0) → ja_W C cells slots lay mem n pc' ls st) : ja_W C cells slots lay mem n pc ls (.int (ja_I a) :: st) := by
  subst hpc
  obtain ⟨p, l, e, R, s, m, args, below, meth, c, D, cA, B, nL, Q⟩ := C
  obtain ⟨hnl, hrm, hx, hb, hml, hown, hts, ⟨hK, hAO, hNw⟩, hlk, hB⟩ := F
  subst hnl; subst hrm
  intro H locs lsA hH hS hl
  exact lv_if_lt hx hb d ht (fun h => kt ((ja_lt ha1 ja_in0).mp h) H locs lsA hH hS hl) (fun h => kf (fun q => h ((ja_lt ha1 ja_in0).mpr q)) H locs lsA hH hS hl)
theorem r_icmp_ge (F : ja_F C own cc nl rm) {a b : Int} (ha1 : ja_in a) (hb1 : ja_in b) {off : Int} {tgt : Nat} (d : decode cc pc = .ok (.if_icmp .ge off, 3)) {pc' : Nat} (hpc : pc + 3 = pc') (ht : (pc : Int) + off = (tgt : Int)) (kt : b ≤ a → ja_W C cells slots lay mem n tgt ls st) (kf : ¬ (b ≤ a) → ja_W C cells slots lay mem n pc' ls st) : ja_W C cells slots lay mem n pc ls (.int (ja_I b) :: .int (ja_I a) :: st) := by
  subst hpc
  obtain ⟨p, l, e, R, s, m, args, below, meth, c, D, cA, B, nL, Q⟩ := C
  obtain ⟨hnl, hrm, hx, hb, hml, hown, hts, ⟨hK, hAO, hNw⟩, hlk, hB⟩ := F
  subst hnl; subst hrm
  intro H locs lsA hH hS hl
  exact lv_icmp_ge hx hb d ht (fun h => kt ((ja_le hb1 ha1).mp h) H locs lsA hH hS hl) (fun h => kf (fun q => h ((ja_le hb1 ha1).mpr q)) H locs lsA hH hS hl)
theorem r_if_ge (F : ja_F C own cc nl rm) {a : Int} (ha1 : ja_in a) {off : Int} {tgt : Nat} (d : decode cc pc = .ok (.ifCond .ge off, 3)) {pc' : Nat} (hpc : pc + 3 = pc') (ht : (pc : Int) + off = (tgt : Int)) (kt : 0 ≤ a → ja_W C cells slots lay mem n tgt ls st) (kf : ¬ (0 ≤ a) → ja_W C cells slots lay mem n pc' ls st) : ja_W C cells slots lay mem n pc ls (.int (ja_I a) :: st) := by
  subst hpc
  obtain ⟨p, l, e, R, s, m, args, below, meth, c, D, cA, B, nL, Q⟩ := C
  obtain ⟨hnl, hrm, hx, hb, hml, hown, hts, ⟨hK, hAO, hNw⟩, hlk, hB⟩ := F
  subst hnl; subst hrm
  intro H locs lsA hH hS hl
  exact lv_if_ge hx hb d ht (fun h => kt ((ja_le ja_in0 ha1).mp h) H locs lsA hH hS hl) (fun h => kf (fun q => h ((ja_le ja_in0 ha1).mpr q)) H locs lsA hH hS hl)
theorem r_icmp_gt (F : ja_F C own cc nl rm) {a b : Int} (ha1 : ja_in a) (hb1 : ja_in b) {off : Int} {tgt : Nat} (d : decode cc pc = .ok (.if_icmp .gt off, 3)) {pc' : Nat} (hpc : pc + 3 = pc') (ht : (pc : Int) + off = (tgt : Int)) (kt : b < a → ja_W C cells slots lay mem n tgt ls st) (kf : ¬ (b < a) → ja_W C cells slots lay mem n pc' ls st) : ja_W C cells slots lay mem n pc ls (.int (ja_I b) :: .int (ja_I a) :: st) := by
  subst hpc
  obtain ⟨p, l, e, R, s, m, args, below, meth, c, D, cA, B, nL, Q⟩ := C
  obtain ⟨hnl, hrm, hx, hb, hml, hown, hts, ⟨hK, hAO, hNw⟩, hlk, hB⟩ := F
  subst hnl; subst hrm
  intro H locs lsA hH hS hl
  exact lv_icmp_gt hx hb d ht (fun h => kt ((ja_lt hb1 ha1).mp h) H locs lsA hH hS hl) (fun h => kf (fun q => h ((ja_lt hb1 ha1).mpr q)) H locs lsA hH hS hl)
theorem r_if_gt (F : ja_F C own cc nl rm) {a : Int} (ha1 : ja_in a) {off : Int} {tgt : Nat} (d : decode cc pc = .ok (.ifCond .gt off, 3)) {pc' : Nat} (hpc : pc + 3 = pc') (ht : (pc : Int) + off = (tgt : Int)) (kt : 0 < a → ja_W C cells slots lay mem n tgt ls st) (kf : ¬ (0 < a) → ja_W C cells slots lay mem n pc' ls st) : ja_W C cells slots lay mem n pc ls (.int (ja_I a) :: st) := by
  subst hpc
  obtain ⟨p, l, e, R, s, m, args, below, meth, c, D, cA, B, nL, Q⟩ := C
  obtain ⟨hnl, hrm, hx, hb, hml, hown, hts, ⟨hK, hAO, hNw⟩, hlk, hB⟩ := F
  subst hnl; subst hrm
  intro H locs lsA hH hS hl
  exact lv_if_gt hx hb d ht (fun h => kt ((ja_lt ja_in0 ha1).mp h) H locs lsA hH hS hl) (fun h => kf (fun q => h ((ja_lt ja_in0 ha1).mpr q)) H locs lsA hH hS hl)
theorem r_icmp_le (F : ja_F C own cc nl rm) {a b : Int} (ha1 : ja_in a) (hb1 : ja_in b) {off : Int} {tgt : Nat} (d : decode cc pc = .ok (.if_icmp .le off, 3)) {pc' : Nat} (hpc : pc + 3 = pc') (ht : (pc : Int) + off = (tgt : Int)) (kt : a ≤ b → ja_W C cells slots lay mem n tgt ls st) (kf : ¬ (a ≤ b) → ja_W C cells slots lay mem n pc' ls st) : ja_W C cells slots lay mem n pc ls (.int (ja_I b) :: .int (ja_I a) :: st) := by
  subst hpc
  obtain ⟨p, l, e, R, s, m, args, below, meth, c, D, cA, B, nL, Q⟩ := C
  obtain ⟨hnl, hrm, hx, hb, hml, hown, hts, ⟨hK, hAO, hNw⟩, hlk, hB⟩ := F
  subst hnl; subst hrm
  intro H locs lsA hH hS hl
  exact lv_icmp_le hx hb d ht (fun h => kt ((ja_le ha1 hb1).mp h) H locs lsA hH hS hl) (fun h => kf (fun q => h ((ja_le ha1 hb1).mpr q)) H locs lsA hH hS hl)
theorem r_if_le (F : ja_F C own cc nl rm) {a : Int} (ha1 : ja_in a) {off : Int} {tgt : Nat} (d : decode cc pc = .ok (.ifCond .le off, 3)) {pc' : Nat} (hpc : pc + 3 = pc') (ht : (pc : Int) + off = (tgt : Int)) (kt : a ≤ 0 → ja_W C cells slots lay mem n tgt ls st) (kf : ¬ (a ≤ 0) → ja_W C cells slots lay mem n pc' ls st) : ja_W C cells slots lay mem n pc ls (.int (ja_I a) :: st) := by
  subst hpc
  obtain ⟨p, l, e, R, s, m, args, below, meth, c, D, cA, B, nL, Q⟩ := C
  obtain ⟨hnl, hrm, hx, hb, hml, hown, hts, ⟨hK, hAO, hNw⟩, hlk, hB⟩ := F
  subst hnl; subst hrm
  intro H locs lsA hH hS hl
  exact lv_if_le hx hb d ht (fun h => kt ((ja_le ha1 ja_in0).mp h) H locs lsA hH hS hl) (fun h => kf (fun q => h ((ja_le ha1 ja_in0).mpr q)) H locs lsA hH hS hl)
theorem r_goto (F : ja_F C own cc nl rm) {off : Int} {tgt : Nat} (d : decode cc pc = .ok (.goto off, 3)) (ht : (pc : Int) + off = (tgt : Int)) (k : ja_W C cells slots lay mem n tgt ls st) : ja_W C cells slots lay mem n pc ls st := by
  obtain ⟨p, l, e, R, s, m, args, below, meth, c, D, cA, B, nL, Q⟩ := C
  obtain ⟨hnl, hrm, hx, hb, hml, hown, hts, ⟨hK, hAO, hNw⟩, hlk, hB⟩ := F
  subst hnl; subst hrm
  intro H locs lsA hH hS hl
  exact lv_goto hx hb d ht (k H locs lsA hH hS hl)
theorem r_nonnull (F : ja_F C own cc nl rm) {x : Nat} {off : Int} {tgt : Nat} (d : decode cc pc = .ok (.ifnonnull off, 3)) (ht : (pc : Int) + off = (tgt : Int)) (k : ja_W C cells slots lay mem n tgt ls st) : ja_W C cells slots lay mem n pc ls (.ref x :: st) := by
  obtain ⟨p, l, e, R, s, m, args, below, meth, c, D, cA, B, nL, Q⟩ := C
  obtain ⟨hnl, hrm, hx, hb, hml, hown, hts, ⟨hK, hAO, hNw⟩, hlk, hB⟩ := F
  subst hnl; subst hrm
  intro H locs lsA hH hS hl
  exact lv_ifnonnull hx hb d ht (k H locs lsA hH hS hl)
theorem r_nonnullN (F : ja_F C own cc nl rm) {off : Int} (d : decode cc pc = .ok (.ifnonnull off, 3)) {pc' : Nat} (hpc : pc + 3 = pc') (k : ja_W C cells slots lay mem n pc' ls st) : ja_W C cells slots lay mem n pc ls (.null :: st) := by
  subst hpc
  obtain ⟨p, l, e, R, s, m, args, below, meth, c, D, cA, B, nL, Q⟩ := C
  obtain ⟨hnl, hrm, hx, hb, hml, hown, hts, ⟨hK, hAO, hNw⟩, hlk, hB⟩ := F
  subst hnl; subst hrm
  intro H locs lsA hH hS hl
  exact lv_ifnonnullN hx hb d (k H locs lsA hH hS hl)
theorem r_tableIn (F : ja_F C own cc nl rm) {dflt lo hi : Int} {offs : Array Int} {len : Nat} {z off : Int} {tgt : Nat} (hz : ja_in z) (d : decode cc pc = .ok (.tableswitch dflt lo hi offs, len)) (h1 : lo ≤ z) (h2 : z ≤ hi) (ho : offs[(z - lo).toNat]? = some off) (ht : (pc : Int) + off = (tgt : Int)) (k : ja_W C cells slots lay mem n tgt ls st) : ja_W C cells slots lay mem n pc ls (.int (ja_I z) :: st) := by
  obtain ⟨p, l, e, R, s, m, args, below, meth, c, D, cA, B, nL, Q⟩ := C
  obtain ⟨hnl, hrm, hx, hb, hml, hown, hts, ⟨hK, hAO, hNw⟩, hlk, hB⟩ := F
  subst hnl; subst hrm
  intro H locs lsA hH hS hl
  exact lv_tableIn hx hb d (by rw [ja_toInt hz]; omega) (by rw [ja_toInt hz]; omega) (by rw [ja_toInt hz]; exact ho) ht (k H locs lsA hH hS hl)
theorem r_tableOut (F : ja_F C own cc nl rm) {dflt lo hi : Int} {offs : Array Int} {len : Nat} {z : Int} {tgt : Nat} (hz : ja_in z) (d : decode cc pc = .ok (.tableswitch dflt lo hi offs, len)) (h1 : z < lo ∨ hi < z) (ht : (pc : Int) + dflt = (tgt : Int)) (k : ja_W C cells slots lay mem n tgt ls st) : ja_W C cells slots lay mem n pc ls (.int (ja_I z) :: st) := by
  obtain ⟨p, l, e, R, s, m, args, below, meth, c, D, cA, B, nL, Q⟩ := C
  obtain ⟨hnl, hrm, hx, hb, hml, hown, hts, ⟨hK, hAO, hNw⟩, hlk, hB⟩ := F
  subst hnl; subst hrm
  intro H locs lsA hH hS hl
  exact lv_tableOut hx hb d (by rw [ja_toInt hz]; exact h1) ht (k H locs lsA hH hS hl)
theorem r_lookup (F : ja_F C own cc nl rm) {dflt : Int} {ps : Array (Int × Int)} {len : Nat} {z off : Int} {tgt : Nat} (hz : ja_in z) (d : decode cc pc = .ok (.lookupswitch dflt ps, len)) (hp : (ps.toList.zip (ps.toList.drop 1)).all (fun (a, next) => a.1 < next.1) = true) (ho : Op.lookupswitch.offset ps.toList dflt z = off) (ht : (pc : Int) + off = (tgt : Int)) (k : ja_W C cells slots lay mem n tgt ls st) : ja_W C cells slots lay mem n pc ls (.int (ja_I z) :: st) := by
  obtain ⟨p, l, e, R, s, m, args, below, meth, c, D, cA, B, nL, Q⟩ := C
  obtain ⟨hnl, hrm, hx, hb, hml, hown, hts, ⟨hK, hAO, hNw⟩, hlk, hB⟩ := F
  subst hnl; subst hrm
  intro H locs lsA hH hS hl
  exact lv_lookup hx hb d hp (by rw [ja_toInt hz]; exact ho) ht (k H locs lsA hH hS hl)
end
section
variable {C : ja_C} {own : String} {cc : ByteArray} {nl : Nat} {rm : Room} {cells slots n : Nat} {lay : ja_Y} {mem : ja_M} {pc : Nat} {st : List Value}
theorem r_ist0 (F : ja_F C own cc nl rm) {x0 : Option Value} {r : List (Option Value)} {x : Int32} (hn : 0 < nl) (hp : ja_pre (x0 :: r) 0 = true) (d : decode cc pc = .ok (.istore_n 0, 1)) {pc' : Nat} (hpc : pc + 1 = pc') (k : ja_W C cells slots lay mem n pc' (some (.int x) :: r) st) : ja_W C cells slots lay mem n pc (x0 :: r) (.int x :: st) := r_istore_n F rfl hn hp rfl d hpc k
theorem r_ast0 (F : ja_F C own cc nl rm) {x0 : Option Value} {r : List (Option Value)} {x : Nat} (hn : 0 < nl) (hp : ja_pre (x0 :: r) 0 = true) (d : decode cc pc = .ok (.astore_n 0, 1)) {pc' : Nat} (hpc : pc + 1 = pc') (k : ja_W C cells slots lay mem n pc' (some (.ref x) :: r) st) : ja_W C cells slots lay mem n pc (x0 :: r) (.ref x :: st) := r_astore_n F rfl hn hp rfl d hpc k
theorem r_inc0 (F : ja_F C own cc nl rm)  {r : List (Option Value)} {x dz : Int} (hn : 0 < nl) (hp : ja_pre (some (.int (ja_I x)) :: r) 0 = true) (d : decode cc pc = .ok (.iinc 0 dz, 3)) {pc' : Nat} (hpc : pc + 3 = pc') (k : ja_W C cells slots lay mem n pc' (some (.int (ja_I (x + dz))) :: r) st) : ja_W C cells slots lay mem n pc (some (.int (ja_I x)) :: r) st := r_iinc F (i := 0) rfl hn hp rfl d hpc k
theorem r_lst0 (F : ja_F C own cc nl rm) {x0 x1 : Option Value} {r : List (Option Value)} {x : Int64} (hn : 0 + 1 < nl) (hp : ja_pre (x0 :: x1 :: r) 0 = true) (d : decode cc pc = .ok (.lstore_n 0, 1)) {pc' : Nat} (hpc : pc + 1 = pc') (k : ja_W C cells slots lay mem n pc' (some (.long x) :: none :: r) st) : ja_W C cells slots lay mem n pc (x0 :: x1 :: r) (.long x :: st) := r_lstore_n F rfl hn hp rfl d hpc k
theorem r_ist1 (F : ja_F C own cc nl rm) {x0 x1 : Option Value} {r : List (Option Value)} {x : Int32} (hn : 1 < nl) (hp : ja_pre (x0 :: x1 :: r) 1 = true) (d : decode cc pc = .ok (.istore_n 1, 1)) {pc' : Nat} (hpc : pc + 1 = pc') (k : ja_W C cells slots lay mem n pc' (x0 :: some (.int x) :: r) st) : ja_W C cells slots lay mem n pc (x0 :: x1 :: r) (.int x :: st) := r_istore_n F rfl hn hp rfl d hpc k
theorem r_ast1 (F : ja_F C own cc nl rm) {x0 x1 : Option Value} {r : List (Option Value)} {x : Nat} (hn : 1 < nl) (hp : ja_pre (x0 :: x1 :: r) 1 = true) (d : decode cc pc = .ok (.astore_n 1, 1)) {pc' : Nat} (hpc : pc + 1 = pc') (k : ja_W C cells slots lay mem n pc' (x0 :: some (.ref x) :: r) st) : ja_W C cells slots lay mem n pc (x0 :: x1 :: r) (.ref x :: st) := r_astore_n F rfl hn hp rfl d hpc k
theorem r_inc1 (F : ja_F C own cc nl rm) {x0 : Option Value} {r : List (Option Value)} {x dz : Int} (hn : 1 < nl) (hp : ja_pre (x0 :: some (.int (ja_I x)) :: r) 1 = true) (d : decode cc pc = .ok (.iinc 1 dz, 3)) {pc' : Nat} (hpc : pc + 3 = pc') (k : ja_W C cells slots lay mem n pc' (x0 :: some (.int (ja_I (x + dz))) :: r) st) : ja_W C cells slots lay mem n pc (x0 :: some (.int (ja_I x)) :: r) st := r_iinc F (i := 1) rfl hn hp rfl d hpc k
theorem r_lst1 (F : ja_F C own cc nl rm) {x0 x1 x2 : Option Value} {r : List (Option Value)} {x : Int64} (hn : 1 + 1 < nl) (hp : ja_pre (x0 :: x1 :: x2 :: r) 1 = true) (d : decode cc pc = .ok (.lstore_n 1, 1)) {pc' : Nat} (hpc : pc + 1 = pc') (k : ja_W C cells slots lay mem n pc' (x0 :: some (.long x) :: none :: r) st) : ja_W C cells slots lay mem n pc (x0 :: x1 :: x2 :: r) (.long x :: st) := r_lstore_n F rfl hn hp rfl d hpc k
theorem r_ist2 (F : ja_F C own cc nl rm) {x0 x1 x2 : Option Value} {r : List (Option Value)} {x : Int32} (hn : 2 < nl) (hp : ja_pre (x0 :: x1 :: x2 :: r) 2 = true) (d : decode cc pc = .ok (.istore_n 2, 1)) {pc' : Nat} (hpc : pc + 1 = pc') (k : ja_W C cells slots lay mem n pc' (x0 :: x1 :: some (.int x) :: r) st) : ja_W C cells slots lay mem n pc (x0 :: x1 :: x2 :: r) (.int x :: st) := r_istore_n F rfl hn hp rfl d hpc k
theorem r_ast2 (F : ja_F C own cc nl rm) {x0 x1 x2 : Option Value} {r : List (Option Value)} {x : Nat} (hn : 2 < nl) (hp : ja_pre (x0 :: x1 :: x2 :: r) 2 = true) (d : decode cc pc = .ok (.astore_n 2, 1)) {pc' : Nat} (hpc : pc + 1 = pc') (k : ja_W C cells slots lay mem n pc' (x0 :: x1 :: some (.ref x) :: r) st) : ja_W C cells slots lay mem n pc (x0 :: x1 :: x2 :: r) (.ref x :: st) := r_astore_n F rfl hn hp rfl d hpc k
theorem r_inc2 (F : ja_F C own cc nl rm) {x0 x1 : Option Value} {r : List (Option Value)} {x dz : Int} (hn : 2 < nl) (hp : ja_pre (x0 :: x1 :: some (.int (ja_I x)) :: r) 2 = true) (d : decode cc pc = .ok (.iinc 2 dz, 3)) {pc' : Nat} (hpc : pc + 3 = pc') (k : ja_W C cells slots lay mem n pc' (x0 :: x1 :: some (.int (ja_I (x + dz))) :: r) st) : ja_W C cells slots lay mem n pc (x0 :: x1 :: some (.int (ja_I x)) :: r) st := r_iinc F (i := 2) rfl hn hp rfl d hpc k
theorem r_lst2 (F : ja_F C own cc nl rm) {x0 x1 x2 x3 : Option Value} {r : List (Option Value)} {x : Int64} (hn : 2 + 1 < nl) (hp : ja_pre (x0 :: x1 :: x2 :: x3 :: r) 2 = true) (d : decode cc pc = .ok (.lstore_n 2, 1)) {pc' : Nat} (hpc : pc + 1 = pc') (k : ja_W C cells slots lay mem n pc' (x0 :: x1 :: some (.long x) :: none :: r) st) : ja_W C cells slots lay mem n pc (x0 :: x1 :: x2 :: x3 :: r) (.long x :: st) := r_lstore_n F rfl hn hp rfl d hpc k
theorem r_ist3 (F : ja_F C own cc nl rm) {x0 x1 x2 x3 : Option Value} {r : List (Option Value)} {x : Int32} (hn : 3 < nl) (hp : ja_pre (x0 :: x1 :: x2 :: x3 :: r) 3 = true) (d : decode cc pc = .ok (.istore_n 3, 1)) {pc' : Nat} (hpc : pc + 1 = pc') (k : ja_W C cells slots lay mem n pc' (x0 :: x1 :: x2 :: some (.int x) :: r) st) : ja_W C cells slots lay mem n pc (x0 :: x1 :: x2 :: x3 :: r) (.int x :: st) := r_istore_n F rfl hn hp rfl d hpc k
theorem r_ast3 (F : ja_F C own cc nl rm) {x0 x1 x2 x3 : Option Value} {r : List (Option Value)} {x : Nat} (hn : 3 < nl) (hp : ja_pre (x0 :: x1 :: x2 :: x3 :: r) 3 = true) (d : decode cc pc = .ok (.astore_n 3, 1)) {pc' : Nat} (hpc : pc + 1 = pc') (k : ja_W C cells slots lay mem n pc' (x0 :: x1 :: x2 :: some (.ref x) :: r) st) : ja_W C cells slots lay mem n pc (x0 :: x1 :: x2 :: x3 :: r) (.ref x :: st) := r_astore_n F rfl hn hp rfl d hpc k
theorem r_inc3 (F : ja_F C own cc nl rm) {x0 x1 x2 : Option Value} {r : List (Option Value)} {x dz : Int} (hn : 3 < nl) (hp : ja_pre (x0 :: x1 :: x2 :: some (.int (ja_I x)) :: r) 3 = true) (d : decode cc pc = .ok (.iinc 3 dz, 3)) {pc' : Nat} (hpc : pc + 3 = pc') (k : ja_W C cells slots lay mem n pc' (x0 :: x1 :: x2 :: some (.int (ja_I (x + dz))) :: r) st) : ja_W C cells slots lay mem n pc (x0 :: x1 :: x2 :: some (.int (ja_I x)) :: r) st := r_iinc F (i := 3) rfl hn hp rfl d hpc k
theorem r_lst3 (F : ja_F C own cc nl rm) {x0 x1 x2 x3 x4 : Option Value} {r : List (Option Value)} {x : Int64} (hn : 3 + 1 < nl) (hp : ja_pre (x0 :: x1 :: x2 :: x3 :: x4 :: r) 3 = true) (d : decode cc pc = .ok (.lstore_n 3, 1)) {pc' : Nat} (hpc : pc + 1 = pc') (k : ja_W C cells slots lay mem n pc' (x0 :: x1 :: x2 :: some (.long x) :: none :: r) st) : ja_W C cells slots lay mem n pc (x0 :: x1 :: x2 :: x3 :: x4 :: r) (.long x :: st) := r_lstore_n F rfl hn hp rfl d hpc k
theorem r_ist4 (F : ja_F C own cc nl rm) {x0 x1 x2 x3 x4 : Option Value} {r : List (Option Value)} {x : Int32} (hn : 4 < nl) (hp : ja_pre (x0 :: x1 :: x2 :: x3 :: x4 :: r) 4 = true) (d : decode cc pc = .ok (.istore 4, 2)) {pc' : Nat} (hpc : pc + 2 = pc') (k : ja_W C cells slots lay mem n pc' (x0 :: x1 :: x2 :: x3 :: some (.int x) :: r) st) : ja_W C cells slots lay mem n pc (x0 :: x1 :: x2 :: x3 :: x4 :: r) (.int x :: st) := r_istore F hn hp rfl d hpc k
theorem r_ast4 (F : ja_F C own cc nl rm) {x0 x1 x2 x3 x4 : Option Value} {r : List (Option Value)} {x : Nat} (hn : 4 < nl) (hp : ja_pre (x0 :: x1 :: x2 :: x3 :: x4 :: r) 4 = true) (d : decode cc pc = .ok (.astore 4, 2)) {pc' : Nat} (hpc : pc + 2 = pc') (k : ja_W C cells slots lay mem n pc' (x0 :: x1 :: x2 :: x3 :: some (.ref x) :: r) st) : ja_W C cells slots lay mem n pc (x0 :: x1 :: x2 :: x3 :: x4 :: r) (.ref x :: st) := r_astore F hn hp rfl d hpc k
theorem r_inc4 (F : ja_F C own cc nl rm) {x0 x1 x2 x3 : Option Value} {r : List (Option Value)} {x dz : Int} (hn : 4 < nl) (hp : ja_pre (x0 :: x1 :: x2 :: x3 :: some (.int (ja_I x)) :: r) 4 = true) (d : decode cc pc = .ok (.iinc 4 dz, 3)) {pc' : Nat} (hpc : pc + 3 = pc') (k : ja_W C cells slots lay mem n pc' (x0 :: x1 :: x2 :: x3 :: some (.int (ja_I (x + dz))) :: r) st) : ja_W C cells slots lay mem n pc (x0 :: x1 :: x2 :: x3 :: some (.int (ja_I x)) :: r) st := r_iinc F (i := 4) rfl hn hp rfl d hpc k
theorem r_lst4 (F : ja_F C own cc nl rm) {x0 x1 x2 x3 x4 x5 : Option Value} {r : List (Option Value)} {x : Int64} (hn : 4 + 1 < nl) (hp : ja_pre (x0 :: x1 :: x2 :: x3 :: x4 :: x5 :: r) 4 = true) (d : decode cc pc = .ok (.lstore 4, 2)) {pc' : Nat} (hpc : pc + 2 = pc') (k : ja_W C cells slots lay mem n pc' (x0 :: x1 :: x2 :: x3 :: some (.long x) :: none :: r) st) : ja_W C cells slots lay mem n pc (x0 :: x1 :: x2 :: x3 :: x4 :: x5 :: r) (.long x :: st) := r_lstore F hn hp rfl d hpc k
theorem r_ist5 (F : ja_F C own cc nl rm) {x0 x1 x2 x3 x4 x5 : Option Value} {r : List (Option Value)} {x : Int32} (hn : 5 < nl) (hp : ja_pre (x0 :: x1 :: x2 :: x3 :: x4 :: x5 :: r) 5 = true) (d : decode cc pc = .ok (.istore 5, 2)) {pc' : Nat} (hpc : pc + 2 = pc') (k : ja_W C cells slots lay mem n pc' (x0 :: x1 :: x2 :: x3 :: x4 :: some (.int x) :: r) st) : ja_W C cells slots lay mem n pc (x0 :: x1 :: x2 :: x3 :: x4 :: x5 :: r) (.int x :: st) := r_istore F hn hp rfl d hpc k
theorem r_ast5 (F : ja_F C own cc nl rm) {x0 x1 x2 x3 x4 x5 : Option Value} {r : List (Option Value)} {x : Nat} (hn : 5 < nl) (hp : ja_pre (x0 :: x1 :: x2 :: x3 :: x4 :: x5 :: r) 5 = true) (d : decode cc pc = .ok (.astore 5, 2)) {pc' : Nat} (hpc : pc + 2 = pc') (k : ja_W C cells slots lay mem n pc' (x0 :: x1 :: x2 :: x3 :: x4 :: some (.ref x) :: r) st) : ja_W C cells slots lay mem n pc (x0 :: x1 :: x2 :: x3 :: x4 :: x5 :: r) (.ref x :: st) := r_astore F hn hp rfl d hpc k
theorem r_inc5 (F : ja_F C own cc nl rm) {x0 x1 x2 x3 x4 : Option Value} {r : List (Option Value)} {x dz : Int} (hn : 5 < nl) (hp : ja_pre (x0 :: x1 :: x2 :: x3 :: x4 :: some (.int (ja_I x)) :: r) 5 = true) (d : decode cc pc = .ok (.iinc 5 dz, 3)) {pc' : Nat} (hpc : pc + 3 = pc') (k : ja_W C cells slots lay mem n pc' (x0 :: x1 :: x2 :: x3 :: x4 :: some (.int (ja_I (x + dz))) :: r) st) : ja_W C cells slots lay mem n pc (x0 :: x1 :: x2 :: x3 :: x4 :: some (.int (ja_I x)) :: r) st := r_iinc F (i := 5) rfl hn hp rfl d hpc k
theorem r_lst5 (F : ja_F C own cc nl rm) {x0 x1 x2 x3 x4 x5 x6 : Option Value} {r : List (Option Value)} {x : Int64} (hn : 5 + 1 < nl) (hp : ja_pre (x0 :: x1 :: x2 :: x3 :: x4 :: x5 :: x6 :: r) 5 = true) (d : decode cc pc = .ok (.lstore 5, 2)) {pc' : Nat} (hpc : pc + 2 = pc') (k : ja_W C cells slots lay mem n pc' (x0 :: x1 :: x2 :: x3 :: x4 :: some (.long x) :: none :: r) st) : ja_W C cells slots lay mem n pc (x0 :: x1 :: x2 :: x3 :: x4 :: x5 :: x6 :: r) (.long x :: st) := r_lstore F hn hp rfl d hpc k
theorem r_ist6 (F : ja_F C own cc nl rm) {x0 x1 x2 x3 x4 x5 x6 : Option Value} {r : List (Option Value)} {x : Int32} (hn : 6 < nl) (hp : ja_pre (x0 :: x1 :: x2 :: x3 :: x4 :: x5 :: x6 :: r) 6 = true) (d : decode cc pc = .ok (.istore 6, 2)) {pc' : Nat} (hpc : pc + 2 = pc') (k : ja_W C cells slots lay mem n pc' (x0 :: x1 :: x2 :: x3 :: x4 :: x5 :: some (.int x) :: r) st) : ja_W C cells slots lay mem n pc (x0 :: x1 :: x2 :: x3 :: x4 :: x5 :: x6 :: r) (.int x :: st) := r_istore F hn hp rfl d hpc k
theorem r_ast6 (F : ja_F C own cc nl rm) {x0 x1 x2 x3 x4 x5 x6 : Option Value} {r : List (Option Value)} {x : Nat} (hn : 6 < nl) (hp : ja_pre (x0 :: x1 :: x2 :: x3 :: x4 :: x5 :: x6 :: r) 6 = true) (d : decode cc pc = .ok (.astore 6, 2)) {pc' : Nat} (hpc : pc + 2 = pc') (k : ja_W C cells slots lay mem n pc' (x0 :: x1 :: x2 :: x3 :: x4 :: x5 :: some (.ref x) :: r) st) : ja_W C cells slots lay mem n pc (x0 :: x1 :: x2 :: x3 :: x4 :: x5 :: x6 :: r) (.ref x :: st) := r_astore F hn hp rfl d hpc k
theorem r_inc6 (F : ja_F C own cc nl rm) {x0 x1 x2 x3 x4 x5 : Option Value} {r : List (Option Value)} {x dz : Int} (hn : 6 < nl) (hp : ja_pre (x0 :: x1 :: x2 :: x3 :: x4 :: x5 :: some (.int (ja_I x)) :: r) 6 = true) (d : decode cc pc = .ok (.iinc 6 dz, 3)) {pc' : Nat} (hpc : pc + 3 = pc') (k : ja_W C cells slots lay mem n pc' (x0 :: x1 :: x2 :: x3 :: x4 :: x5 :: some (.int (ja_I (x + dz))) :: r) st) : ja_W C cells slots lay mem n pc (x0 :: x1 :: x2 :: x3 :: x4 :: x5 :: some (.int (ja_I x)) :: r) st := r_iinc F (i := 6) rfl hn hp rfl d hpc k
theorem r_lst6 (F : ja_F C own cc nl rm) {x0 x1 x2 x3 x4 x5 x6 x7 : Option Value} {r : List (Option Value)} {x : Int64} (hn : 6 + 1 < nl) (hp : ja_pre (x0 :: x1 :: x2 :: x3 :: x4 :: x5 :: x6 :: x7 :: r) 6 = true) (d : decode cc pc = .ok (.lstore 6, 2)) {pc' : Nat} (hpc : pc + 2 = pc') (k : ja_W C cells slots lay mem n pc' (x0 :: x1 :: x2 :: x3 :: x4 :: x5 :: some (.long x) :: none :: r) st) : ja_W C cells slots lay mem n pc (x0 :: x1 :: x2 :: x3 :: x4 :: x5 :: x6 :: x7 :: r) (.long x :: st) := r_lstore F hn hp rfl d hpc k
theorem r_ist7 (F : ja_F C own cc nl rm) {x0 x1 x2 x3 x4 x5 x6 x7 : Option Value} {r : List (Option Value)} {x : Int32} (hn : 7 < nl) (hp : ja_pre (x0 :: x1 :: x2 :: x3 :: x4 :: x5 :: x6 :: x7 :: r) 7 = true) (d : decode cc pc = .ok (.istore 7, 2)) {pc' : Nat} (hpc : pc + 2 = pc') (k : ja_W C cells slots lay mem n pc' (x0 :: x1 :: x2 :: x3 :: x4 :: x5 :: x6 :: some (.int x) :: r) st) : ja_W C cells slots lay mem n pc (x0 :: x1 :: x2 :: x3 :: x4 :: x5 :: x6 :: x7 :: r) (.int x :: st) := r_istore F hn hp rfl d hpc k
theorem r_ast7 (F : ja_F C own cc nl rm) {x0 x1 x2 x3 x4 x5 x6 x7 : Option Value} {r : List (Option Value)} {x : Nat} (hn : 7 < nl) (hp : ja_pre (x0 :: x1 :: x2 :: x3 :: x4 :: x5 :: x6 :: x7 :: r) 7 = true) (d : decode cc pc = .ok (.astore 7, 2)) {pc' : Nat} (hpc : pc + 2 = pc') (k : ja_W C cells slots lay mem n pc' (x0 :: x1 :: x2 :: x3 :: x4 :: x5 :: x6 :: some (.ref x) :: r) st) : ja_W C cells slots lay mem n pc (x0 :: x1 :: x2 :: x3 :: x4 :: x5 :: x6 :: x7 :: r) (.ref x :: st) := r_astore F hn hp rfl d hpc k
theorem r_inc7 (F : ja_F C own cc nl rm) {x0 x1 x2 x3 x4 x5 x6 : Option Value} {r : List (Option Value)} {x dz : Int} (hn : 7 < nl) (hp : ja_pre (x0 :: x1 :: x2 :: x3 :: x4 :: x5 :: x6 :: some (.int (ja_I x)) :: r) 7 = true) (d : decode cc pc = .ok (.iinc 7 dz, 3)) {pc' : Nat} (hpc : pc + 3 = pc') (k : ja_W C cells slots lay mem n pc' (x0 :: x1 :: x2 :: x3 :: x4 :: x5 :: x6 :: some (.int (ja_I (x + dz))) :: r) st) : ja_W C cells slots lay mem n pc (x0 :: x1 :: x2 :: x3 :: x4 :: x5 :: x6 :: some (.int (ja_I x)) :: r) st := r_iinc F (i := 7) rfl hn hp rfl d hpc k
theorem r_lst7 (F : ja_F C own cc nl rm) {x0 x1 x2 x3 x4 x5 x6 x7 x8 : Option Value} {r : List (Option Value)} {x : Int64} (hn : 7 + 1 < nl) (hp : ja_pre (x0 :: x1 :: x2 :: x3 :: x4 :: x5 :: x6 :: x7 :: x8 :: r) 7 = true) (d : decode cc pc = .ok (.lstore 7, 2)) {pc' : Nat} (hpc : pc + 2 = pc') (k : ja_W C cells slots lay mem n pc' (x0 :: x1 :: x2 :: x3 :: x4 :: x5 :: x6 :: some (.long x) :: none :: r) st) : ja_W C cells slots lay mem n pc (x0 :: x1 :: x2 :: x3 :: x4 :: x5 :: x6 :: x7 :: x8 :: r) (.long x :: st) := r_lstore F hn hp rfl d hpc k
theorem r_ist8 (F : ja_F C own cc nl rm) {x0 x1 x2 x3 x4 x5 x6 x7 x8 : Option Value} {r : List (Option Value)} {x : Int32} (hn : 8 < nl) (hp : ja_pre (x0 :: x1 :: x2 :: x3 :: x4 :: x5 :: x6 :: x7 :: x8 :: r) 8 = true) (d : decode cc pc = .ok (.istore 8, 2)) {pc' : Nat} (hpc : pc + 2 = pc') (k : ja_W C cells slots lay mem n pc' (x0 :: x1 :: x2 :: x3 :: x4 :: x5 :: x6 :: x7 :: some (.int x) :: r) st) : ja_W C cells slots lay mem n pc (x0 :: x1 :: x2 :: x3 :: x4 :: x5 :: x6 :: x7 :: x8 :: r) (.int x :: st) := r_istore F hn hp rfl d hpc k
theorem r_ast8 (F : ja_F C own cc nl rm) {x0 x1 x2 x3 x4 x5 x6 x7 x8 : Option Value} {r : List (Option Value)} {x : Nat} (hn : 8 < nl) (hp : ja_pre (x0 :: x1 :: x2 :: x3 :: x4 :: x5 :: x6 :: x7 :: x8 :: r) 8 = true) (d : decode cc pc = .ok (.astore 8, 2)) {pc' : Nat} (hpc : pc + 2 = pc') (k : ja_W C cells slots lay mem n pc' (x0 :: x1 :: x2 :: x3 :: x4 :: x5 :: x6 :: x7 :: some (.ref x) :: r) st) : ja_W C cells slots lay mem n pc (x0 :: x1 :: x2 :: x3 :: x4 :: x5 :: x6 :: x7 :: x8 :: r) (.ref x :: st) := r_astore F hn hp rfl d hpc k
theorem r_inc8 (F : ja_F C own cc nl rm) {x0 x1 x2 x3 x4 x5 x6 x7 : Option Value} {r : List (Option Value)} {x dz : Int} (hn : 8 < nl) (hp : ja_pre (x0 :: x1 :: x2 :: x3 :: x4 :: x5 :: x6 :: x7 :: some (.int (ja_I x)) :: r) 8 = true) (d : decode cc pc = .ok (.iinc 8 dz, 3)) {pc' : Nat} (hpc : pc + 3 = pc') (k : ja_W C cells slots lay mem n pc' (x0 :: x1 :: x2 :: x3 :: x4 :: x5 :: x6 :: x7 :: some (.int (ja_I (x + dz))) :: r) st) : ja_W C cells slots lay mem n pc (x0 :: x1 :: x2 :: x3 :: x4 :: x5 :: x6 :: x7 :: some (.int (ja_I x)) :: r) st := r_iinc F (i := 8) rfl hn hp rfl d hpc k
theorem r_lst8 (F : ja_F C own cc nl rm) {x0 x1 x2 x3 x4 x5 x6 x7 x8 x9 : Option Value} {r : List (Option Value)} {x : Int64} (hn : 8 + 1 < nl) (hp : ja_pre (x0 :: x1 :: x2 :: x3 :: x4 :: x5 :: x6 :: x7 :: x8 :: x9 :: r) 8 = true) (d : decode cc pc = .ok (.lstore 8, 2)) {pc' : Nat} (hpc : pc + 2 = pc') (k : ja_W C cells slots lay mem n pc' (x0 :: x1 :: x2 :: x3 :: x4 :: x5 :: x6 :: x7 :: some (.long x) :: none :: r) st) : ja_W C cells slots lay mem n pc (x0 :: x1 :: x2 :: x3 :: x4 :: x5 :: x6 :: x7 :: x8 :: x9 :: r) (.long x :: st) := r_lstore F hn hp rfl d hpc k
theorem r_ist9 (F : ja_F C own cc nl rm) {x0 x1 x2 x3 x4 x5 x6 x7 x8 x9 : Option Value} {r : List (Option Value)} {x : Int32} (hn : 9 < nl) (hp : ja_pre (x0 :: x1 :: x2 :: x3 :: x4 :: x5 :: x6 :: x7 :: x8 :: x9 :: r) 9 = true) (d : decode cc pc = .ok (.istore 9, 2)) {pc' : Nat} (hpc : pc + 2 = pc') (k : ja_W C cells slots lay mem n pc' (x0 :: x1 :: x2 :: x3 :: x4 :: x5 :: x6 :: x7 :: x8 :: some (.int x) :: r) st) : ja_W C cells slots lay mem n pc (x0 :: x1 :: x2 :: x3 :: x4 :: x5 :: x6 :: x7 :: x8 :: x9 :: r) (.int x :: st) := r_istore F hn hp rfl d hpc k
theorem r_ast9 (F : ja_F C own cc nl rm) {x0 x1 x2 x3 x4 x5 x6 x7 x8 x9 : Option Value} {r : List (Option Value)} {x : Nat} (hn : 9 < nl) (hp : ja_pre (x0 :: x1 :: x2 :: x3 :: x4 :: x5 :: x6 :: x7 :: x8 :: x9 :: r) 9 = true) (d : decode cc pc = .ok (.astore 9, 2)) {pc' : Nat} (hpc : pc + 2 = pc') (k : ja_W C cells slots lay mem n pc' (x0 :: x1 :: x2 :: x3 :: x4 :: x5 :: x6 :: x7 :: x8 :: some (.ref x) :: r) st) : ja_W C cells slots lay mem n pc (x0 :: x1 :: x2 :: x3 :: x4 :: x5 :: x6 :: x7 :: x8 :: x9 :: r) (.ref x :: st) := r_astore F hn hp rfl d hpc k
theorem r_inc9 (F : ja_F C own cc nl rm) {x0 x1 x2 x3 x4 x5 x6 x7 x8 : Option Value} {r : List (Option Value)} {x dz : Int} (hn : 9 < nl) (hp : ja_pre (x0 :: x1 :: x2 :: x3 :: x4 :: x5 :: x6 :: x7 :: x8 :: some (.int (ja_I x)) :: r) 9 = true) (d : decode cc pc = .ok (.iinc 9 dz, 3)) {pc' : Nat} (hpc : pc + 3 = pc') (k : ja_W C cells slots lay mem n pc' (x0 :: x1 :: x2 :: x3 :: x4 :: x5 :: x6 :: x7 :: x8 :: some (.int (ja_I (x + dz))) :: r) st) : ja_W C cells slots lay mem n pc (x0 :: x1 :: x2 :: x3 :: x4 :: x5 :: x6 :: x7 :: x8 :: some (.int (ja_I x)) :: r) st := r_iinc F (i := 9) rfl hn hp rfl d hpc k
theorem r_lst9 (F : ja_F C own cc nl rm) {x0 x1 x2 x3 x4 x5 x6 x7 x8 x9 x10 : Option Value} {r : List (Option Value)} {x : Int64} (hn : 9 + 1 < nl) (hp : ja_pre (x0 :: x1 :: x2 :: x3 :: x4 :: x5 :: x6 :: x7 :: x8 :: x9 :: x10 :: r) 9 = true) (d : decode cc pc = .ok (.lstore 9, 2)) {pc' : Nat} (hpc : pc + 2 = pc') (k : ja_W C cells slots lay mem n pc' (x0 :: x1 :: x2 :: x3 :: x4 :: x5 :: x6 :: x7 :: x8 :: some (.long x) :: none :: r) st) : ja_W C cells slots lay mem n pc (x0 :: x1 :: x2 :: x3 :: x4 :: x5 :: x6 :: x7 :: x8 :: x9 :: x10 :: r) (.long x :: st) := r_lstore F hn hp rfl d hpc k
theorem r_ist10 (F : ja_F C own cc nl rm) {x0 x1 x2 x3 x4 x5 x6 x7 x8 x9 x10 : Option Value} {r : List (Option Value)} {x : Int32} (hn : 10 < nl) (hp : ja_pre (x0 :: x1 :: x2 :: x3 :: x4 :: x5 :: x6 :: x7 :: x8 :: x9 :: x10 :: r) 10 = true) (d : decode cc pc = .ok (.istore 10, 2)) {pc' : Nat} (hpc : pc + 2 = pc') (k : ja_W C cells slots lay mem n pc' (x0 :: x1 :: x2 :: x3 :: x4 :: x5 :: x6 :: x7 :: x8 :: x9 :: some (.int x) :: r) st) : ja_W C cells slots lay mem n pc (x0 :: x1 :: x2 :: x3 :: x4 :: x5 :: x6 :: x7 :: x8 :: x9 :: x10 :: r) (.int x :: st) := r_istore F hn hp rfl d hpc k
theorem r_ast10 (F : ja_F C own cc nl rm) {x0 x1 x2 x3 x4 x5 x6 x7 x8 x9 x10 : Option Value} {r : List (Option Value)} {x : Nat} (hn : 10 < nl) (hp : ja_pre (x0 :: x1 :: x2 :: x3 :: x4 :: x5 :: x6 :: x7 :: x8 :: x9 :: x10 :: r) 10 = true) (d : decode cc pc = .ok (.astore 10, 2)) {pc' : Nat} (hpc : pc + 2 = pc') (k : ja_W C cells slots lay mem n pc' (x0 :: x1 :: x2 :: x3 :: x4 :: x5 :: x6 :: x7 :: x8 :: x9 :: some (.ref x) :: r) st) : ja_W C cells slots lay mem n pc (x0 :: x1 :: x2 :: x3 :: x4 :: x5 :: x6 :: x7 :: x8 :: x9 :: x10 :: r) (.ref x :: st) := r_astore F hn hp rfl d hpc k
theorem r_inc10 (F : ja_F C own cc nl rm) {x0 x1 x2 x3 x4 x5 x6 x7 x8 x9 : Option Value} {r : List (Option Value)} {x dz : Int} (hn : 10 < nl) (hp : ja_pre (x0 :: x1 :: x2 :: x3 :: x4 :: x5 :: x6 :: x7 :: x8 :: x9 :: some (.int (ja_I x)) :: r) 10 = true) (d : decode cc pc = .ok (.iinc 10 dz, 3)) {pc' : Nat} (hpc : pc + 3 = pc') (k : ja_W C cells slots lay mem n pc' (x0 :: x1 :: x2 :: x3 :: x4 :: x5 :: x6 :: x7 :: x8 :: x9 :: some (.int (ja_I (x + dz))) :: r) st) : ja_W C cells slots lay mem n pc (x0 :: x1 :: x2 :: x3 :: x4 :: x5 :: x6 :: x7 :: x8 :: x9 :: some (.int (ja_I x)) :: r) st := r_iinc F (i := 10) rfl hn hp rfl d hpc k
theorem r_lst10 (F : ja_F C own cc nl rm) {x0 x1 x2 x3 x4 x5 x6 x7 x8 x9 x10 x11 : Option Value} {r : List (Option Value)} {x : Int64} (hn : 10 + 1 < nl) (hp : ja_pre (x0 :: x1 :: x2 :: x3 :: x4 :: x5 :: x6 :: x7 :: x8 :: x9 :: x10 :: x11 :: r) 10 = true) (d : decode cc pc = .ok (.lstore 10, 2)) {pc' : Nat} (hpc : pc + 2 = pc') (k : ja_W C cells slots lay mem n pc' (x0 :: x1 :: x2 :: x3 :: x4 :: x5 :: x6 :: x7 :: x8 :: x9 :: some (.long x) :: none :: r) st) : ja_W C cells slots lay mem n pc (x0 :: x1 :: x2 :: x3 :: x4 :: x5 :: x6 :: x7 :: x8 :: x9 :: x10 :: x11 :: r) (.long x :: st) := r_lstore F hn hp rfl d hpc k
theorem r_ist11 (F : ja_F C own cc nl rm) {x0 x1 x2 x3 x4 x5 x6 x7 x8 x9 x10 x11 : Option Value} {r : List (Option Value)} {x : Int32} (hn : 11 < nl) (hp : ja_pre (x0 :: x1 :: x2 :: x3 :: x4 :: x5 :: x6 :: x7 :: x8 :: x9 :: x10 :: x11 :: r) 11 = true) (d : decode cc pc = .ok (.istore 11, 2)) {pc' : Nat} (hpc : pc + 2 = pc') (k : ja_W C cells slots lay mem n pc' (x0 :: x1 :: x2 :: x3 :: x4 :: x5 :: x6 :: x7 :: x8 :: x9 :: x10 :: some (.int x) :: r) st) : ja_W C cells slots lay mem n pc (x0 :: x1 :: x2 :: x3 :: x4 :: x5 :: x6 :: x7 :: x8 :: x9 :: x10 :: x11 :: r) (.int x :: st) := r_istore F hn hp rfl d hpc k
theorem r_ast11 (F : ja_F C own cc nl rm) {x0 x1 x2 x3 x4 x5 x6 x7 x8 x9 x10 x11 : Option Value} {r : List (Option Value)} {x : Nat} (hn : 11 < nl) (hp : ja_pre (x0 :: x1 :: x2 :: x3 :: x4 :: x5 :: x6 :: x7 :: x8 :: x9 :: x10 :: x11 :: r) 11 = true) (d : decode cc pc = .ok (.astore 11, 2)) {pc' : Nat} (hpc : pc + 2 = pc') (k : ja_W C cells slots lay mem n pc' (x0 :: x1 :: x2 :: x3 :: x4 :: x5 :: x6 :: x7 :: x8 :: x9 :: x10 :: some (.ref x) :: r) st) : ja_W C cells slots lay mem n pc (x0 :: x1 :: x2 :: x3 :: x4 :: x5 :: x6 :: x7 :: x8 :: x9 :: x10 :: x11 :: r) (.ref x :: st) := r_astore F hn hp rfl d hpc k
theorem r_inc11 (F : ja_F C own cc nl rm) {x0 x1 x2 x3 x4 x5 x6 x7 x8 x9 x10 : Option Value} {r : List (Option Value)} {x dz : Int} (hn : 11 < nl) (hp : ja_pre (x0 :: x1 :: x2 :: x3 :: x4 :: x5 :: x6 :: x7 :: x8 :: x9 :: x10 :: some (.int (ja_I x)) :: r) 11 = true) (d : decode cc pc = .ok (.iinc 11 dz, 3)) {pc' : Nat} (hpc : pc + 3 = pc') (k : ja_W C cells slots lay mem n pc' (x0 :: x1 :: x2 :: x3 :: x4 :: x5 :: x6 :: x7 :: x8 :: x9 :: x10 :: some (.int (ja_I (x + dz))) :: r) st) : ja_W C cells slots lay mem n pc (x0 :: x1 :: x2 :: x3 :: x4 :: x5 :: x6 :: x7 :: x8 :: x9 :: x10 :: some (.int (ja_I x)) :: r) st := r_iinc F (i := 11) rfl hn hp rfl d hpc k
theorem r_lst11 (F : ja_F C own cc nl rm) {x0 x1 x2 x3 x4 x5 x6 x7 x8 x9 x10 x11 x12 : Option Value} {r : List (Option Value)} {x : Int64} (hn : 11 + 1 < nl) (hp : ja_pre (x0 :: x1 :: x2 :: x3 :: x4 :: x5 :: x6 :: x7 :: x8 :: x9 :: x10 :: x11 :: x12 :: r) 11 = true) (d : decode cc pc = .ok (.lstore 11, 2)) {pc' : Nat} (hpc : pc + 2 = pc') (k : ja_W C cells slots lay mem n pc' (x0 :: x1 :: x2 :: x3 :: x4 :: x5 :: x6 :: x7 :: x8 :: x9 :: x10 :: some (.long x) :: none :: r) st) : ja_W C cells slots lay mem n pc (x0 :: x1 :: x2 :: x3 :: x4 :: x5 :: x6 :: x7 :: x8 :: x9 :: x10 :: x11 :: x12 :: r) (.long x :: st) := r_lstore F hn hp rfl d hpc k
theorem r_ist12 (F : ja_F C own cc nl rm) {x0 x1 x2 x3 x4 x5 x6 x7 x8 x9 x10 x11 x12 : Option Value} {r : List (Option Value)} {x : Int32} (hn : 12 < nl) (hp : ja_pre (x0 :: x1 :: x2 :: x3 :: x4 :: x5 :: x6 :: x7 :: x8 :: x9 :: x10 :: x11 :: x12 :: r) 12 = true) (d : decode cc pc = .ok (.istore 12, 2)) {pc' : Nat} (hpc : pc + 2 = pc') (k : ja_W C cells slots lay mem n pc' (x0 :: x1 :: x2 :: x3 :: x4 :: x5 :: x6 :: x7 :: x8 :: x9 :: x10 :: x11 :: some (.int x) :: r) st) : ja_W C cells slots lay mem n pc (x0 :: x1 :: x2 :: x3 :: x4 :: x5 :: x6 :: x7 :: x8 :: x9 :: x10 :: x11 :: x12 :: r) (.int x :: st) := r_istore F hn hp rfl d hpc k
theorem r_ast12 (F : ja_F C own cc nl rm) {x0 x1 x2 x3 x4 x5 x6 x7 x8 x9 x10 x11 x12 : Option Value} {r : List (Option Value)} {x : Nat} (hn : 12 < nl) (hp : ja_pre (x0 :: x1 :: x2 :: x3 :: x4 :: x5 :: x6 :: x7 :: x8 :: x9 :: x10 :: x11 :: x12 :: r) 12 = true) (d : decode cc pc = .ok (.astore 12, 2)) {pc' : Nat} (hpc : pc + 2 = pc') (k : ja_W C cells slots lay mem n pc' (x0 :: x1 :: x2 :: x3 :: x4 :: x5 :: x6 :: x7 :: x8 :: x9 :: x10 :: x11 :: some (.ref x) :: r) st) : ja_W C cells slots lay mem n pc (x0 :: x1 :: x2 :: x3 :: x4 :: x5 :: x6 :: x7 :: x8 :: x9 :: x10 :: x11 :: x12 :: r) (.ref x :: st) := r_astore F hn hp rfl d hpc k
theorem r_inc12 (F : ja_F C own cc nl rm) {x0 x1 x2 x3 x4 x5 x6 x7 x8 x9 x10 x11 : Option Value} {r : List (Option Value)} {x dz : Int} (hn : 12 < nl) (hp : ja_pre (x0 :: x1 :: x2 :: x3 :: x4 :: x5 :: x6 :: x7 :: x8 :: x9 :: x10 :: x11 :: some (.int (ja_I x)) :: r) 12 = true) (d : decode cc pc = .ok (.iinc 12 dz, 3)) {pc' : Nat} (hpc : pc + 3 = pc') (k : ja_W C cells slots lay mem n pc' (x0 :: x1 :: x2 :: x3 :: x4 :: x5 :: x6 :: x7 :: x8 :: x9 :: x10 :: x11 :: some (.int (ja_I (x + dz))) :: r) st) : ja_W C cells slots lay mem n pc (x0 :: x1 :: x2 :: x3 :: x4 :: x5 :: x6 :: x7 :: x8 :: x9 :: x10 :: x11 :: some (.int (ja_I x)) :: r) st := r_iinc F (i := 12) rfl hn hp rfl d hpc k
theorem r_lst12 (F : ja_F C own cc nl rm) {x0 x1 x2 x3 x4 x5 x6 x7 x8 x9 x10 x11 x12 x13 : Option Value} {r : List (Option Value)} {x : Int64} (hn : 12 + 1 < nl) (hp : ja_pre (x0 :: x1 :: x2 :: x3 :: x4 :: x5 :: x6 :: x7 :: x8 :: x9 :: x10 :: x11 :: x12 :: x13 :: r) 12 = true) (d : decode cc pc = .ok (.lstore 12, 2)) {pc' : Nat} (hpc : pc + 2 = pc') (k : ja_W C cells slots lay mem n pc' (x0 :: x1 :: x2 :: x3 :: x4 :: x5 :: x6 :: x7 :: x8 :: x9 :: x10 :: x11 :: some (.long x) :: none :: r) st) : ja_W C cells slots lay mem n pc (x0 :: x1 :: x2 :: x3 :: x4 :: x5 :: x6 :: x7 :: x8 :: x9 :: x10 :: x11 :: x12 :: x13 :: r) (.long x :: st) := r_lstore F hn hp rfl d hpc k
end
end
section
/-- what the tables say of a field of class ci, place k, as class own links it at index -/
def ja_Fd (own : String) (index ci k : Nat) (ty : FieldType) (fin : Bool) : Prop := ∃ (Cn : String) (T : u_T) (N : Nat) (ty0 : Nat → FieldType), vwCl[ci]? = some (Cn, T, N) ∧ k < N ∧ (∀ w ∈ u_ws Cn T N, w ∈ lw_tbg) ∧ Cond.fieldLink own index Cn (T k).2.1 (T k).2.2.1 ∈ lw_tbg ∧ (T k).1 = Cn ∧ (∀ k, k < N → parseFieldDescriptor (T k).2.2.1 = some (ty0 k)) ∧ (∀ a, a < N → ∀ b, b < N → a ≠ b → (T a).2.1 ≠ (T b).2.1) ∧ (T k).2.2.2 = fin ∧ parseFieldDescriptor (T k).2.2.1 = some ty
def ja_FdN (own : String) (index ci k : Nat) : Prop := ∃ (Cn : String) (T : u_T) (N : Nat) (host : String), vwCl[ci]? = some (Cn, T, N) ∧ k < N ∧ (∀ w ∈ u_ws Cn T N, w ∈ lw_tbg) ∧ Cond.fieldLinkNest own index Cn (T k).2.1 (T k).2.2.1 host ∈ lw_tbl ∧ (T k).1 = Cn
theorem va_at.obj {D : va_G} {cl : List vw_C} {a ci : Nat} {fs : List Value} {H : Heap} {r : vw_C} (h : va_at D cl (a, .inr (ci, fs)) H) (hc : cl[ci]? = some r) : t_OB a (D.1 ci) r.2.2 (D.2 ci) H (vp_V fs) := by
  obtain ⟨r', h1, h2⟩ := h
  have : r' = r := Option.some.inj (h1.symm.trans hc)
  subst this
  exact h2
section
variable {C : ja_C} {own : String} {cc : ByteArray} {nl : Nat} {rm : Room} {cells slots n : Nat} {lay : ja_Y} {mem : ja_M} {pc : Nat} {ls : List (Option Value)} {st : List Value}
theorem r_getV (F : ja_F C own cc nl rm) {a ci k index : Nat} {ty : FieldType} {fin : Bool} {ds : List (Option Value)} {dv : Option Value} (f : ja_Fd own index ci k ty fin) (hy : lay a = some (.inl (ci, ds))) (hd : ds[k]? = some dv) (d : decode cc pc = .ok (.getfield index, 3)) {pc' : Nat} (hpc : pc + 3 = pc') (kk : ja_W C cells slots lay mem n pc' ls (ja_dv dv (mem a k) :: st)) : ja_W C cells slots lay mem n pc ls (.ref a :: st) := by
  subst hpc
  obtain ⟨p, l, e, R, s, m, args, below, meth, c, D, cA, B, nL, Q⟩ := C
  obtain ⟨hnl, hrm, hx, hb, hml, hown, hts, ⟨hK, hAO, hNw⟩, hlk, hB⟩ := F
  subst hnl; subst hrm
  obtain ⟨Cn, T, N, ty0, hc, hk, hin, hlink, hsm, hty, hnm, hfin, hpd⟩ := f
  intro H locs lsA hH hS hl
  have hat := (hH.2 a _ hy).2.2
  have hP : va_P D vwCl [(a, .inr (ci, ja_fs 0 ds (mem a)))] H := fun q w hq => by
    cases q with
    | zero => cases hq; exact hat
    | succ q => simp at hq
  exact va_get hx hb hts hin hown hK hP 0 rfl hc k hk (hts _ hlink) (fun x h => by rw [hsm] at h; exact h) (ja_fs_get0 hd) d (kk H locs lsA hH hS hl)
theorem r_getVN (F : ja_F C own cc nl rm) {a ci k index : Nat} {ds : List (Option Value)} {dv : Option Value} (f : ja_FdN own index ci k) (hy : lay a = some (.inl (ci, ds))) (hd : ds[k]? = some dv) (d : decode cc pc = .ok (.getfield index, 3)) {pc' : Nat} (hpc : pc + 3 = pc') (kk : ja_W C cells slots lay mem n pc' ls (ja_dv dv (mem a k) :: st)) : ja_W C cells slots lay mem n pc ls (.ref a :: st) := by
  subst hpc
  obtain ⟨p, l, e, R, s, m, args, below, meth, c, D, cA, B, nL, Q⟩ := C
  obtain ⟨hnl, hrm, hx, hb, hml, hown, hts, ⟨hK, hAO, hNw⟩, hlk, hB⟩ := F
  subst hnl; subst hrm
  obtain ⟨Cn, T, N, host, hc, hk, hin, hlink, hsm⟩ := f
  intro H locs lsA hH hS hl
  have hat := (hH.2 a _ hy).2.2
  have hP : va_P D vwCl [(a, .inr (ci, ja_fs 0 ds (mem a)))] H := fun q w hq => by
    cases q with
    | zero => cases hq; exact hat
    | succ q => simp at hq
  exact va_getN hx hb hts hin hown hK hP 0 rfl hc k hk (va_Nw.use rfl (hNw _ hlink rfl)) (fun x h => by rw [hsm] at h; exact h) (ja_fs_get0 hd) d (kk H locs lsA hH hS hl)
theorem r_getRN (F : ja_F C own cc nl rm) {a ci k index : Nat} {ds : List (Option Value)} {v : Value} (f : ja_FdN own index ci k) (hy : lay a = some (.inl (ci, ds))) (hd : ds[k]? = some (some v)) (d : decode cc pc = .ok (.getfield index, 3)) {pc' : Nat} (hpc : pc + 3 = pc') (kk : ja_W C cells slots lay mem n pc' ls (v :: st)) : ja_W C cells slots lay mem n pc ls (.ref a :: st) := r_getVN F f hy hd d hpc kk
theorem r_getI (F : ja_F C own cc nl rm) {a ci k index : Nat} {ty : FieldType} {fin : Bool} {ds : List (Option Value)} (f : ja_Fd own index ci k ty fin) (hy : lay a = some (.inl (ci, ds))) (hd : ds[k]? = some none) (d : decode cc pc = .ok (.getfield index, 3)) {pc' : Nat} (hpc : pc + 3 = pc') (kk : ja_W C cells slots lay mem n pc' ls (.int (ja_I (mem a k)) :: st)) : ja_W C cells slots lay mem n pc ls (.ref a :: st) := r_getV F f hy hd d hpc kk
theorem r_getR (F : ja_F C own cc nl rm) {a ci k index : Nat} {ty : FieldType} {fin : Bool} {ds : List (Option Value)} {v : Value} (f : ja_Fd own index ci k ty fin) (hy : lay a = some (.inl (ci, ds))) (hd : ds[k]? = some (some v)) (d : decode cc pc = .ok (.getfield index, 3)) {pc' : Nat} (hpc : pc + 3 = pc') (kk : ja_W C cells slots lay mem n pc' ls (v :: st)) : ja_W C cells slots lay mem n pc ls (.ref a :: st) := r_getV F f hy hd d hpc kk
/-- the world behind a store into the cell a -/
theorem ja_H.upd {D : va_G} {cA : Nat → ClassId} {B n a : Nat} {lay lay' : ja_Y} {mem mem' : ja_M} {H H1 : Heap} {e' : ja_E} (h : ja_H D cA B lay mem n H) (hz : H1.size = H.size) (oq : ∀ q, q ≠ a → H1[q]? = H[q]?) (hB : B ≤ a ∧ a < n) (he : va_at D vwCl (a, ja_cell cA e' (mem' a)) H1) (hl : ∀ q e, lay' q = some e → (q = a ∧ e = e') ∨ (q ≠ a ∧ lay q = some e)) (hm : ∀ q, q ≠ a → mem' q = mem q) : ja_H D cA B lay' mem' n H1 := by
  refine ⟨hz.trans h.1, fun q e hq => ?_⟩
  rcases hl q e hq with ⟨rfl, rfl⟩ | ⟨h1, h2⟩
  · exact ⟨hB.1, hB.2, he⟩
  · obtain ⟨g1, g2, g3⟩ := h.2 q e h2
    exact ⟨g1, g2, by rw [hm q h1]; exact g3.kept (oq q h1)⟩
theorem ja_same {lay : ja_Y} {a : Nat} {e' : ja_E} (h : lay a = some e') : ∀ q e, lay q = some e → (q = a ∧ e = e') ∨ (q ≠ a ∧ lay q = some e) := by
  intro q e hq
  by_cases hqa : q = a
  · subst hqa
    rw [h] at hq
    exact Or.inl ⟨rfl, (Option.some.inj hq).symm⟩
  · exact Or.inr ⟨hqa, hq⟩
theorem ja_up_o {mem : ja_M} {a j : Nat} {z : Int} : ∀ q, q ≠ a → ja_up mem a j z q = mem q := fun q hq => ja_up_row hq
theorem r_putV (F : ja_F C own cc nl rm) {a ci k index : Nat} {ty : FieldType} {ds : List (Option Value)} {z : Int} (f : ja_Fd own index ci k ty false) (hy : lay a = some (.inl (ci, ds))) (hd : ds[k]? = some none) (hn : narrow ty (.int (ja_I z)) = .int (ja_I z)) (hfit : fits ty (.int (ja_I z)) = true) (d : decode cc pc = .ok (.putfield index, 3)) {pc' : Nat} (hpc : pc + 3 = pc') (kk : ja_W C cells slots lay (ja_up mem a k z) n pc' ls st) : ja_W C cells slots lay mem n pc ls (.int (ja_I z) :: .ref a :: st) := by
  subst hpc
  obtain ⟨p, l, e, R, s, m, args, below, meth, c, D, cA, B, nL, Q⟩ := C
  obtain ⟨hnl, hrm, hx, hb, hml, hown, hts, ⟨hK, hAO, hNw⟩, hlk, hB⟩ := F
  subst hnl; subst hrm
  obtain ⟨Cn, T, N, ty0, hc, hk, hin, hlink, hsm, hty, hnm, hfin, hpd⟩ := f
  intro H locs lsA hH hS hl
  obtain ⟨hBa, han, hat⟩ := hH.2 a _ hy
  have hap := va_apart (own := own) hts hin ty0 hty hnm hK hc
  obtain ⟨cell, q1, q2, q3, q4⟩ := va_at.obj hat hc
  obtain ⟨hSl, hfc, kC, hkC, hkind⟩ := hK.1 ci _ hc
  obtain ⟨cf, kf, fi, fd, hi, hsl⟩ := hSl k hk
  have hlay := hts _ (hin _ (u_in_lay hk))
  unfold u_lay at hlay
  rw [if_neg (by rw [hfin]; decide)] at hlay
  have hst := (u_facts hfc hkC (u_lays hts hin hk) hi).1
  have h6 := u_store hfc hkC hkind hlay hi hpd hn hfit
  have hi' : s.fieldFound? Cn (T k).2.1 (T k).2.2.1 = some (cf, kf, fi, fd) := by have := hi; rw [hsm] at this; exact this
  refine W.putK hx hb (f := fd) ⟨hown, hts _ hlink, ⟨_, _, _, hi'⟩, hst⟩ (by rw [q2]; exact h6) q1 q3 (by rw [hsl]; exact k2_hasslot (q4 k hk)) rfl rfl d fun H' e1 e2 e3 => ?_
  rw [hsl] at e1 ⊢
  refine kk H' _ lsA (hH.upd (a := a) e2 e3 ⟨hBa, han⟩ ?_ (ja_same hy) ja_up_o) (hS.put e2 e3 hBa) hl
  refine ⟨_, hc, ?_⟩
  have h7 := t_OB.to (V' := vp_V (ja_fs 0 ds (ja_up mem a k z a))) ⟨_, e1, q2, q3, t_set q4 hap hk (.int (ja_I z))⟩ (fun j _ => by
    rw [vp_updV_set (by rw [ja_fs_len]; exact (List.getElem?_eq_some_iff.mp hd).1) (.int (ja_I z)) j, ja_fs_put hd])
  exact h7
theorem r_putI (F : ja_F C own cc nl rm) {a ci k index : Nat} {ds : List (Option Value)} {z : Int} (f : ja_Fd own index ci k .int false) (hy : lay a = some (.inl (ci, ds))) (hd : ds[k]? = some none) (d : decode cc pc = .ok (.putfield index, 3)) {pc' : Nat} (hpc : pc + 3 = pc') (kk : ja_W C cells slots lay (ja_up mem a k z) n pc' ls st) : ja_W C cells slots lay mem n pc ls (.int (ja_I z) :: .ref a :: st) := r_putV F f hy hd rfl rfl d hpc kk
theorem r_putZ (F : ja_F C own cc nl rm) {a ci k index : Nat} {ds : List (Option Value)} {z : Int} (hz : z = 0 ∨ z = 1) (f : ja_Fd own index ci k .boolean false) (hy : lay a = some (.inl (ci, ds))) (hd : ds[k]? = some none) (d : decode cc pc = .ok (.putfield index, 3)) {pc' : Nat} (hpc : pc + 3 = pc') (kk : ja_W C cells slots lay (ja_up mem a k z) n pc' ls st) : ja_W C cells slots lay mem n pc ls (.int (ja_I z) :: .ref a :: st) := r_putV F f hy hd (by rcases hz with rfl | rfl <;> decide) (by rcases hz with rfl | rfl <;> decide) d hpc kk
/-- a final field, by the constructor: the layout gets its value -/
def ja_ly (lay : ja_Y) (a : Nat) (e : ja_E) : ja_Y := fun q => if q = a then some e else lay q
theorem ja_ly_s (lay : ja_Y) (a : Nat) (e : ja_E) : ja_ly lay a e a = some e := by simp [ja_ly]
theorem ja_ly_n {lay : ja_Y} {a q : Nat} {e : ja_E} (h : q ≠ a) : ja_ly lay a e q = lay q := by simp [ja_ly, h]
theorem ja_ly_in {lay : ja_Y} {a : Nat} {e' : ja_E} : ∀ q e, ja_ly lay a e' q = some e → (q = a ∧ e = e') ∨ (q ≠ a ∧ lay q = some e) := by
  intro q e hq
  by_cases hqa : q = a
  · subst hqa
    rw [ja_ly_s] at hq
    exact Or.inl ⟨rfl, (Option.some.inj hq).symm⟩
  · rw [ja_ly_n hqa] at hq
    exact Or.inr ⟨hqa, hq⟩
theorem ja_fs_setY : ∀ (ds : List (Option Value)) (i : Nat) (f : Nat → Int) (k : Nat) (v : Value), (ja_fs i ds f).set k v = ja_fs i (ds.set k (some v)) f
  | [], _, _, _, _ => rfl
  | d0 :: ds, i, f, 0, v => rfl
  | d0 :: ds, i, f, k + 1, v => by
    simp only [ja_fs, List.set_cons_succ]
    rw [ja_fs_setY ds (i + 1) f k v]
theorem r_putF (F : ja_F C own cc nl rm) (hnm0 : C.2.2.2.2.2.2.2.2.1.name = "<init>") {a ci k index q : Nat} {ty : FieldType} {ds : List (Option Value)} (hfit : fits ty (.ref q) = true) (hnar : narrow ty (.ref q) = .ref q) (hdecl : vwCl[ci]?.map (·.1) = some own) (f : ja_Fd own index ci k ty true) (hy : lay a = some (.inl (ci, ds))) (hd : k < ds.length) (d : decode cc pc = .ok (.putfield index, 3)) {pc' : Nat} (hpc : pc + 3 = pc') (kk : ja_W C cells slots (ja_ly lay a (.inl (ci, ds.set k (some (.ref q))))) mem n pc' ls st) : ja_W C cells slots lay mem n pc ls (.ref q :: .ref a :: st) := by
  subst hpc
  obtain ⟨p, l, e, R, s, m, args, below, meth, c, D, cA, B, nL, Q⟩ := C
  obtain ⟨hnl, hrm, hx, hb, hml, hown, hts, ⟨hK, hAO, hNw⟩, hlk, hB⟩ := F
  subst hnl; subst hrm
  obtain ⟨Cn, T, N, ty0, hc, hk, hin, hlink, hsm, hty, hnm, hfin, hpd⟩ := f
  intro H locs lsA hH hS hl
  obtain ⟨hBa, han, hat⟩ := hH.2 a _ hy
  have hap := va_apart (own := own) hts hin ty0 hty hnm hK hc
  obtain ⟨cell, q1, q2, q3, q4⟩ := va_at.obj hat hc
  obtain ⟨hSl, hfc, kC, hkC, hkind⟩ := hK.1 ci _ hc
  obtain ⟨cf, kf, fi, fd, hi, hsl⟩ := hSl k hk
  have hlay := hts _ (hin _ (u_in_lay hk))
  unfold u_lay at hlay
  rw [if_pos hfin] at hlay
  have hst := (u_facts hfc hkC (u_lays hts hin hk) hi).1
  have hCn : Cn = own := by
    rw [hc] at hdecl
    exact Option.some.inj hdecl
  have hcf : m.cls = cf := by
    obtain ⟨_, _, c', _, _, _, -, -, hf', -, -, -, hown2, -⟩ := Cond.laysFinal_spec hlay
    have e1 : c' = cf := by have := hi.symm.trans hf'; simp at this; exact this.1.symm
    rw [hsm, hCn] at hown2
    rw [← e1]; exact Option.some.inj (hown.symm.trans hown2)
  have h6 := u_fits hfc hkC hkind (Or.inr hlay) hi hpd hnar hfit
  have hi' : s.fieldFound? Cn (T k).2.1 (T k).2.2.1 = some (cf, kf, fi, fd) := by have := hi; rw [hsm] at this; exact this
  refine W.putFinK hx hb hown (hts _ hlink) hi' hst hcf hnm0 (by rw [q2]; exact h6) q1 q3 (by rw [hsl]; exact k2_hasslot (q4 k hk)) rfl rfl d fun H' e1 e2 e3 => ?_
  rw [hsl] at e1 ⊢
  refine kk H' _ lsA (hH.upd (a := a) (mem' := mem) (e' := .inl (ci, ds.set k (some (.ref q)))) e2 e3 ⟨hBa, han⟩ ?_ ja_ly_in (fun _ _ => rfl)) (hS.put e2 e3 hBa) hl
  refine ⟨_, hc, ?_⟩
  exact t_OB.to (V' := vp_V (ja_fs 0 (ds.set k (some (.ref q))) (mem a))) ⟨_, e1, q2, q3, t_set q4 hap hk (.ref q)⟩ (fun j _ => by
    rw [vp_updV_set (by rw [ja_fs_len]; exact hd) (.ref q) j, ja_fs_setY])
-- arrays
theorem ja_arr {cA : Nat → ClassId} {s : State} {D : va_G} (hK : va_K D vwCl (ja_tys cA) s) (t : Nat) {ca : ClassId} {ty : FieldType} (ht : (ja_tys cA)[t]? = some (ca, ty)) : ArrOfT s ca ty := (hK.2 t _ ht).1
theorem r_iald (F : ja_F C own cc nl rm) {a N : Nat} {r : Nat → Option Nat} {z : Int} (hy : lay a = some (.inr (0, N, r))) (h0 : 0 ≤ z) (h1 : z < N) (hN : N ≤ 2147483648) (d : decode cc pc = .ok (.iaload, 1)) {pc' : Nat} (hpc : pc + 1 = pc') (kk : ja_W C cells slots lay mem n pc' ls (.int (ja_I (mem a z.toNat)) :: st)) : ja_W C cells slots lay mem n pc ls (.int (ja_I z) :: .ref a :: st) := by
  subst hpc
  obtain ⟨p, l, e, R, s, m, args, below, meth, c, D, cA, B, nL, Q⟩ := C
  obtain ⟨hnl, hrm, hx, hb, hml, hown, hts, ⟨hK, hAO, hNw⟩, hlk, hB⟩ := F
  subst hnl; subst hrm
  intro H locs lsA hH hS hl
  have hat := (hH.2 a _ hy).2.2
  have hP : va_P D vwCl [(a, .inl (cA 0, N, .inl (fun j => ja_I (mem a j))))] H := fun q w hq => by
    cases q with
    | zero => cases hq; exact hat
    | succ q => simp at hq
  have hk := kk H locs lsA hH hS hl
  rw [← ja_clamp (z := z) ⟨by omega, by omega⟩] at hk
  exact va_iald hx hb hK hP 0 0 rfl rfl (ja_vpin h0 h1 hN) d hk
theorem r_zald (F : ja_F C own cc nl rm) {a N : Nat} {r : Nat → Option Nat} {z : Int} (hy : lay a = some (.inr (2, N, r))) (h0 : 0 ≤ z) (h1 : z < N) (hN : N ≤ 2147483648) (d : decode cc pc = .ok (.baload, 1)) {pc' : Nat} (hpc : pc + 1 = pc') (kk : ja_W C cells slots lay mem n pc' ls (.int (ja_I (mem a z.toNat)) :: st)) : ja_W C cells slots lay mem n pc ls (.int (ja_I z) :: .ref a :: st) := by
  subst hpc
  obtain ⟨p, l, e, R, s, m, args, below, meth, c, D, cA, B, nL, Q⟩ := C
  obtain ⟨hnl, hrm, hx, hb, hml, hown, hts, ⟨hK, hAO, hNw⟩, hlk, hB⟩ := F
  subst hnl; subst hrm
  intro H locs lsA hH hS hl
  have hat := (hH.2 a _ hy).2.2
  have hP : va_P D vwCl [(a, .inl (cA 2, N, .inl (fun j => ja_I (mem a j))))] H := fun q w hq => by
    cases q with
    | zero => cases hq; exact hat
    | succ q => simp at hq
  have hk := kk H locs lsA hH hS hl
  rw [← ja_clamp (z := z) ⟨by omega, by omega⟩] at hk
  exact va_zald hx hb hK hP 0 2 rfl rfl (ja_vpin h0 h1 hN) d hk
theorem r_lald (F : ja_F C own cc nl rm) {a N : Nat} {r : Nat → Option Nat} {z : Int} (hy : lay a = some (.inr (1, N, r))) (h0 : 0 ≤ z) (h1 : z < N) (hN : N ≤ 2147483648) (d : decode cc pc = .ok (.laload, 1)) {pc' : Nat} (hpc : pc + 1 = pc') (kk : ja_W C cells slots lay mem n pc' ls (.long (ja_L (mem a z.toNat)) :: st)) : ja_W C cells slots lay mem n pc ls (.int (ja_I z) :: .ref a :: st) := by
  subst hpc
  obtain ⟨p, l, e, R, s, m, args, below, meth, c, D, cA, B, nL, Q⟩ := C
  obtain ⟨hnl, hrm, hx, hb, hml, hown, hts, ⟨hK, hAO, hNw⟩, hlk, hB⟩ := F
  subst hnl; subst hrm
  intro H locs lsA hH hS hl
  have hat := (hH.2 a _ hy).2.2
  have hP : va_P D vwCl [(a, .inl (cA 1, N, .inr (.inl (fun j => ja_L (mem a j)))))] H := fun q w hq => by
    cases q with
    | zero => cases hq; exact hat
    | succ q => simp at hq
  have hk := kk H locs lsA hH hS hl
  rw [← ja_clamp (z := z) ⟨by omega, by omega⟩] at hk
  exact va_lald hx hb hK hP 0 1 rfl rfl (ja_vpin h0 h1 hN) d hk
theorem r_aald (F : ja_F C own cc nl rm) {a N : Nat} {r : Nat → Option Nat} {z : Int} (hy : lay a = some (.inr (3, N, r))) (h0 : 0 ≤ z) (h1 : z < N) (hN : N ≤ 2147483648) (d : decode cc pc = .ok (.aaload, 1)) {pc' : Nat} (hpc : pc + 1 = pc') (kk : ja_W C cells slots lay mem n pc' ls (va_rf (r z.toNat) :: st)) : ja_W C cells slots lay mem n pc ls (.int (ja_I z) :: .ref a :: st) := by
  subst hpc
  obtain ⟨p, l, e, R, s, m, args, below, meth, c, D, cA, B, nL, Q⟩ := C
  obtain ⟨hnl, hrm, hx, hb, hml, hown, hts, ⟨hK, hAO, hNw⟩, hlk, hB⟩ := F
  subst hnl; subst hrm
  intro H locs lsA hH hS hl
  have hat := (hH.2 a _ hy).2.2
  have hP : va_P D vwCl [(a, .inl (cA 3, N, .inr (.inr (.inr (.inr r)))))] H := fun q w hq => by
    cases q with
    | zero => cases hq; exact hat
    | succ q => simp at hq
  have hk := kk H locs lsA hH hS hl
  rw [← ja_clamp (z := z) ⟨by omega, by omega⟩] at hk
  exact va_aldq hx hb hK hP 0 3 rfl rfl (ja_vpin h0 h1 hN) d hk
theorem r_iast (F : ja_F C own cc nl rm) {a N : Nat} {r : Nat → Option Nat} {z x : Int} (hy : lay a = some (.inr (0, N, r))) (h0 : 0 ≤ z) (h1 : z < N) (hN : N ≤ 2147483648) (d : decode cc pc = .ok (.iastore, 1)) {pc' : Nat} (hpc : pc + 1 = pc') (kk : ja_W C cells slots lay (ja_up mem a z.toNat x) n pc' ls st) : ja_W C cells slots lay mem n pc ls (.int (ja_I x) :: .int (ja_I z) :: .ref a :: st) := by
  subst hpc
  obtain ⟨p, l, e, R, s, m, args, below, meth, c, D, cA, B, nL, Q⟩ := C
  obtain ⟨hnl, hrm, hx, hb, hml, hown, hts, ⟨hK, hAO, hNw⟩, hlk, hB⟩ := F
  subst hnl; subst hrm
  intro H locs lsA hH hS hl
  obtain ⟨hBa, han, hat⟩ := hH.2 a _ hy
  refine W.iast hx hb hat ((hK.2 0 _ rfl).1 N (fun j => .int (ja_I (mem a j)))) (fun q => by cases q) (by show ¬ (_ ∨ (arrV _ _ _).slots.size ≤ _); rw [arrV_size]; exact ja_vpin h0 h1 hN) rfl rfl d fun H1 e1 e2 e3 => ?_
  refine kk H1 _ lsA (hH.upd (a := a) e2 e3 ⟨hBa, han⟩ ?_ (ja_same hy) ja_up_o) (hS.put e2 e3 hBa) hl
  show H1[a]? = some (vp_cell _ _)
  rw [e1]
  show some ((vp_cell (cA 0) (N, .inl (fun j => ja_I (mem a j)))).setSlot _ _) = some (vp_cell (cA 0) (N, .inl _))
  rw [vp_cell_i, vp_cell_i, arrV_store, ja_clamp ⟨by omega, by omega⟩]
  congr 2
  funext q
  by_cases hq : q = z.toNat
  · subst hq
    simp [updV, ja_up]
  · simp [updV, ja_up, hq]
theorem r_zast (F : ja_F C own cc nl rm) {a N : Nat} {r : Nat → Option Nat} {z x : Int} (hz : x = 0 ∨ x = 1) (hy : lay a = some (.inr (2, N, r))) (h0 : 0 ≤ z) (h1 : z < N) (hN : N ≤ 2147483648) (d : decode cc pc = .ok (.bastore, 1)) {pc' : Nat} (hpc : pc + 1 = pc') (kk : ja_W C cells slots lay (ja_up mem a z.toNat x) n pc' ls st) : ja_W C cells slots lay mem n pc ls (.int (ja_I x) :: .int (ja_I z) :: .ref a :: st) := by
  subst hpc
  obtain ⟨p, l, e, R, s, m, args, below, meth, c, D, cA, B, nL, Q⟩ := C
  obtain ⟨hnl, hrm, hx, hb, hml, hown, hts, ⟨hK, hAO, hNw⟩, hlk, hB⟩ := F
  subst hnl; subst hrm
  intro H locs lsA hH hS hl
  obtain ⟨hBa, han, hat⟩ := hH.2 a _ hy
  refine W.zast hx hb hat ((hK.2 2 _ rfl).1 N (fun j => .int (ja_I (mem a j)))) (fun q => by cases q) (by show ¬ (_ ∨ (arrV _ _ _).slots.size ≤ _); rw [arrV_size]; exact ja_vpin h0 h1 hN) rfl rfl d fun H1 e1 e2 e3 => ?_
  refine kk H1 _ lsA (hH.upd (a := a) e2 e3 ⟨hBa, han⟩ ?_ (ja_same hy) ja_up_o) (hS.put e2 e3 hBa) hl
  show H1[a]? = some (vp_cell _ _)
  rw [e1]
  show some ((vp_cell (cA 2) (N, .inl (fun j => ja_I (mem a j)))).setSlot _ _) = some (vp_cell (cA 2) (N, .inl _))
  rw [vp_cell_i, vp_cell_i, arrV_store, ja_clamp ⟨by omega, by omega⟩]
  congr 2
  funext q
  by_cases hq : q = z.toNat
  · subst hq
    rcases hz with rfl | rfl <;> simp [updV, ja_up] <;> decide
  · simp [updV, ja_up, hq]
theorem r_last (F : ja_F C own cc nl rm) {a N : Nat} {r : Nat → Option Nat} {z : Int} {x : Int64} (hy : lay a = some (.inr (1, N, r))) (h0 : 0 ≤ z) (h1 : z < N) (hN : N ≤ 2147483648) (d : decode cc pc = .ok (.lastore, 1)) {pc' : Nat} (hpc : pc + 1 = pc') (kk : ja_W C cells slots lay (ja_up mem a z.toNat x.toInt) n pc' ls st) : ja_W C cells slots lay mem n pc ls (.long x :: .int (ja_I z) :: .ref a :: st) := by
  subst hpc
  obtain ⟨p, l, e, R, s, m, args, below, meth, c, D, cA, B, nL, Q⟩ := C
  obtain ⟨hnl, hrm, hx, hb, hml, hown, hts, ⟨hK, hAO, hNw⟩, hlk, hB⟩ := F
  subst hnl; subst hrm
  intro H locs lsA hH hS hl
  obtain ⟨hBa, han, hat⟩ := hH.2 a _ hy
  refine W.last hx hb hat ((hK.2 1 _ rfl).1 N (fun j => .long (ja_L (mem a j)))) (fun q => by cases q) (by show ¬ (_ ∨ (arrV _ _ _).slots.size ≤ _); rw [arrV_size]; exact ja_vpin h0 h1 hN) rfl rfl d fun H1 e1 e2 e3 => ?_
  refine kk H1 _ lsA (hH.upd (a := a) e2 e3 ⟨hBa, han⟩ ?_ (ja_same hy) ja_up_o) (hS.put e2 e3 hBa) hl
  show H1[a]? = some (vp_cell _ _)
  rw [e1]
  show some ((vp_cell (cA 1) (N, .inr (.inl (fun j => ja_L (mem a j))))).setSlot _ _) = some (vp_cell (cA 1) (N, .inr (.inl _)))
  rw [vp_cell_l, vp_cell_l, arrV_store, ja_clamp ⟨by omega, by omega⟩]
  congr 2
  funext q
  by_cases hq : q = z.toNat
  · subst hq
    simp [updV, ja_up, ja_Lof]
  · simp [updV, ja_up, hq]
end
end
section
-- what is made
def ja_zr (mem : ja_M) (a : Nat) : ja_M := fun q j => if q = a then 0 else mem q j
theorem ja_zr_s (mem : ja_M) (a j : Nat) : ja_zr mem a a j = 0 := by simp [ja_zr]
theorem ja_zr_n {mem : ja_M} {a q : Nat} (h : q ≠ a) : ja_zr mem a q = mem q := by funext j; simp [ja_zr, h]
def ja_New (own : String) (index ci N : Nat) (ds : List (Option Value)) : Prop := ∃ (Cn : String) (T : u_T) (ty0 : Nat → FieldType), vwCl[ci]? = some (Cn, T, N) ∧ (∀ w ∈ u_ws Cn T N, w ∈ lw_tbg) ∧ (∀ k, k < N → parseFieldDescriptor (T k).2.2.1 = some (ty0 k)) ∧ Cond.classLink own index Cn ∈ lw_tbg ∧ Cond.instantiable Cn N ∈ lw_tbg ∧ Cond.initialized Cn ∈ lw_tbg ∧ ∀ j, j < N → defaultValue (ty0 j) = vp_V (ja_fs 0 ds (fun _ => 0)) j
theorem ja_H.push {D : va_G} {cA : Nat → ClassId} {B n : Nat} {lay : ja_Y} {mem : ja_M} {H H1 : Heap} {e' : ja_E} (h : ja_H D cA B lay mem n H) (hB : B ≤ n) (hz : H1.size = n + 1) (oq : ∀ q, q < n → H1[q]? = H[q]?) (he : va_at D vwCl (n, ja_cell cA e' (fun _ => 0)) H1) : ja_H D cA B (ja_ly lay n e') (ja_zr mem n) (n + 1) H1 := by
  refine ⟨hz, fun q e hq => ?_⟩
  rcases ja_ly_in q e hq with ⟨rfl, rfl⟩ | ⟨h1, h2⟩
  · exact ⟨hB, by omega, by rw [show ja_zr mem q q = (fun _ => 0) from funext fun j => ja_zr_s mem q j]; exact he⟩
  · obtain ⟨g1, g2, g3⟩ := h.2 q e h2
    exact ⟨g1, by omega, by rw [ja_zr_n h1]; exact g3.kept (oq q g2)⟩
section
variable {C : ja_C} {own : String} {cc : ByteArray} {nl : Nat} {rm : Room} {cells slots n : Nat} {lay : ja_Y} {mem : ja_M} {pc : Nat} {ls : List (Option Value)} {st : List Value}
theorem r_new (F : ja_F C own cc nl rm) {index ci N : Nat} {ds : List (Option Value)} (f : ja_New own index ci N ds) (hc1 : cells + 1 ≤ rm.cells) (hs1 : slots + N ≤ rm.slots) (d : decode cc pc = .ok (.new index, 3)) {pc' : Nat} (hpc : pc + 3 = pc') (kk : ja_W C (cells + 1) (slots + N) (ja_ly lay n (.inl (ci, ds))) (ja_zr mem n) (n + 1) pc' ls (.ref n :: st)) : ja_W C cells slots lay mem n pc ls st := by
  subst hpc
  obtain ⟨p, l, e, R, s, m, args, below, meth, c, D, cA, B, nL, Q⟩ := C
  obtain ⟨hnl, hrm, hx, hb, hml, hown, hts, ⟨hK, hAO, hNw⟩, hlk, hB⟩ := F
  subst hnl; subst hrm
  obtain ⟨Cn, T, ty0, hc, hin, hty, hcl, hins, hini, hdef⟩ := f
  intro H locs lsA hH hS hl
  have hKn := hK.1 ci _ hc
  have hBn : B ≤ n := by have := hS.1; rw [hH.1] at this; omega
  refine W.newcK hx hb hown (hts _ hcl) (hts _ hins) (hts _ hini) rfl d hc1 hs1 hKn.2.1 hH.1 fun H1 kC hkC e1 z1 o1 => ?_
  refine kk H1 locs lsA (hH.push hBn z1 o1 ⟨_, hc, (u_born ty0 hts hin hKn hkC e1 hty).to hdef⟩) ⟨by have := hS.1; have := hH.1; omega, fun x h1 h2 => (o1 x (by have := hS.1; have := hH.1; omega)).trans (hS.2.1 x h1 h2), hS.2.2⟩ hl
theorem r_newa (F : ja_F C own cc nl rm) {atype : ArrayType} {kd : Nat} {z : Int} (hw : Cond.arrayClass (newarray.typeOf atype) ∈ lw_tbg) (hkd : kd < 3) (hty : (ja_tys (fun q => q))[kd]?.map (·.2) = some (newarray.typeOf atype)) (h0 : 0 ≤ z) (hb1 : z ≤ 60000000) (hc1 : cells + 1 ≤ rm.cells) (hs1 : slots + z.toNat ≤ rm.slots) (d : decode cc pc = .ok (.newarray atype, 2)) {pc' : Nat} (hpc : pc + 2 = pc') (kk : ja_W C (cells + 1) (slots + z.toNat) (ja_ly lay n (.inr (kd, z.toNat, fun _ => none))) (ja_zr mem n) (n + 1) pc' ls (.ref n :: st)) : ja_W C cells slots lay mem n pc ls (.int (ja_I z) :: st) := by
  subst hpc
  obtain ⟨p, l, e, R, s, m, args, below, meth, c, D, cA, B, nL, Q⟩ := C
  obtain ⟨hnl, hrm, hx, hb, hml, hown, hts, ⟨hK, hAO, hNw⟩, hlk, hB⟩ := F
  subst hnl; subst hrm
  intro H locs lsA hH hS hl
  have hBn : B ≤ n := by have := hS.1; rw [hH.1] at this; omega
  have hzi : ja_in z := ⟨by omega, by omega⟩
  have hcb : componentBytes (newarray.typeOf atype) ≤ 8 := by cases atype <;> decide
  refine va_newaK hx hb (hts _ hw) rfl d rfl (by rw [ja_zero, ja_lt hzi ja_in0]; omega) (ja_clamp hzi) (Nat.le_trans (Nat.mul_le_mul_left _ hcb) (by omega)) hc1 hs1 hH.1 fun H1 ca e1 z1 o1 hAr hNm => ?_
  have hca : ca = cA kd := by
    have hk : ∃ ty, (ja_tys cA)[kd]? = some (cA kd, ty) ∧ newarray.typeOf atype = ty ∧ (ty = .int ∨ ty = .long ∨ ty = .boolean) := by
      match kd, hkd, hty with
      | 0, _, hty => exact ⟨.int, rfl, (Option.some.inj hty).symm, Or.inl rfl⟩
      | 1, _, hty => exact ⟨.long, rfl, (Option.some.inj hty).symm, Or.inr (Or.inl rfl)⟩
      | 2, _, hty => exact ⟨.boolean, rfl, (Option.some.inj hty).symm, Or.inr (Or.inr rfl)⟩
    obtain ⟨ty, h1, h2, h3⟩ := hk
    have h4 := (hK.2 kd _ h1).2
    rw [h2] at hNm
    rcases h3 with rfl | rfl | rfl <;> exact Option.some.inj (hNm.symm.trans h4)
  subst hca
  refine kk H1 locs lsA (hH.push hBn z1 o1 ?_) ⟨by have := hS.1; have := hH.1; omega, fun x h1 h2 => (o1 x (by have := hS.1; have := hH.1; omega)).trans (hS.2.1 x h1 h2), hS.2.2⟩ hl
  match kd, hkd, hty with
  | 0, _, hty => rw [show newarray.typeOf atype = .int from (Option.some.inj hty).symm] at e1; exact e1
  | 1, _, hty => rw [show newarray.typeOf atype = .long from (Option.some.inj hty).symm] at e1; exact e1
  | 2, _, hty => rw [show newarray.typeOf atype = .boolean from (Option.some.inj hty).symm] at e1; exact e1
theorem r_newq (F : ja_F C own cc nl rm) {index : Nat} {z : Int} (hw : Cond.classLink own index RX5 ∈ lw_tbg) (h0 : 0 ≤ z) (hb1 : z ≤ 60000000) (hc1 : cells + 1 ≤ rm.cells) (hs1 : slots + z.toNat ≤ rm.slots) (d : decode cc pc = .ok (.anewarray index, 3)) {pc' : Nat} (hpc : pc + 3 = pc') (kk : ja_W C (cells + 1) (slots + z.toNat) (ja_ly lay n (.inr (3, z.toNat, fun _ => none))) (ja_zr mem n) (n + 1) pc' ls (.ref n :: st)) : ja_W C cells slots lay mem n pc ls (.int (ja_I z) :: st) := by
  subst hpc
  obtain ⟨p, l, e, R, s, m, args, below, meth, c, D, cA, B, nL, Q⟩ := C
  obtain ⟨hnl, hrm, hx, hb, hml, hown, hts, ⟨hK, hAO, hNw⟩, hlk, hB⟩ := F
  subst hnl; subst hrm
  intro H locs lsA hH hS hl
  have hBn : B ≤ n := by have := hS.1; rw [hH.1] at this; omega
  have hzi : ja_in z := ⟨by omega, by omega⟩
  have hk2 := kk
  rw [← ja_clamp hzi] at hk2 hs1
  refine W.anew hx hb hown (hts _ hw) (va_AO.use hAO) rfl d rfl (by rw [ja_zero, ja_lt hzi ja_in0]; omega) (by rw [ja_clamp hzi]; omega) hc1 hs1 fun ca kA comp f1 f2 f3 f4 => ?_
  generalize hH1 : H.push ({ cls := ca, slots := Array.replicate (ja_I z).toNatClampNeg .null, vm := .none } : Cell) = H1
  have z1 : H1.size = n + 1 := by rw [← hH1, Array.size_push, hH.1]
  have e1 : H1[n]? = some (arrV ca (ja_I z).toNatClampNeg (fun _ => .null)) := by rw [← hH1, ← hH.1, Array.getElem?_push_size, ← arrV_new]
  have o1 : ∀ q : Nat, q < n → H1[q]? = H[q]? := fun q hq => by rw [← hH1, Array.getElem?_push, if_neg (by rw [hH.1]; omega)]
  have hca : ca = cA 3 := by
    obtain ⟨kA', comp', g1, g2, g3, g4⟩ := (hK.2 3 _ rfl).2
    exact Option.some.inj (f1.symm.trans g4)
  subst hca
  have hk3 := hk2 H1 locs lsA (hH.push hBn z1 o1 e1) ⟨by have := hS.1; have := hH.1; omega, fun x h1 h2 => (o1 x (by have := hS.1; have := hH.1; omega)).trans (hS.2.1 x h1 h2), hS.2.2⟩ hl
  rw [← hH.1] at hk3
  exact hk3
theorem r_aast (F : ja_F C own cc nl rm) {a v N : Nat} {r : Nat → Option Nat} {z : Int} {ds : List (Option Value)} (hy : lay a = some (.inr (3, N, r))) (hv : lay v = some (.inl (5, ds))) (h0 : 0 ≤ z) (h1 : z < N) (hN : N ≤ 2147483648) (d : decode cc pc = .ok (.aastore, 1)) {pc' : Nat} (hpc : pc + 1 = pc') (kk : ja_W C cells slots (ja_ly lay a (.inr (3, N, va_up r z.toNat (some v)))) mem n pc' ls st) : ja_W C cells slots lay mem n pc ls (.ref v :: .int (ja_I z) :: .ref a :: st) := by
  subst hpc
  obtain ⟨p, l, e, R, s, m, args, below, meth, c, D, cA, B, nL, Q⟩ := C
  obtain ⟨hnl, hrm, hx, hb, hml, hown, hts, ⟨hK, hAO, hNw⟩, hlk, hB⟩ := F
  subst hnl; subst hrm
  intro H locs lsA hH hS hl
  obtain ⟨hBa, han, hat⟩ := hH.2 a _ hy
  obtain ⟨hBv, hvn, hav⟩ := hH.2 v _ hv
  have hin := ja_vpin h0 h1 hN
  have hlt : (ja_I z).toNatClampNeg < N := Nat.not_le.mp fun q => hin (Or.inr q)
  have h00 : ¬ ja_I z < 0 := fun q => hin (Or.inl q)
  obtain ⟨cellV, g1, g2, g3, -⟩ := va_at.obj (r := (RX5, TX5, 9)) hav rfl
  have hcls := (hK.1 5 (RX5, TX5, 9) rfl).2
  obtain ⟨kA, comp, k1, k2, k3, -⟩ := (hK.2 3 _ rfl).2
  have hcomp : comp = D.1 5 := Option.some.inj (k3.symm.trans hcls.1)
  subst hcomp
  obtain ⟨kC, hkC, -⟩ := hcls.2
  refine W.aast hx hb hat (fun q h => by cases h) (fun h => by cases h) k1 k2 rfl hkC ⟨h00, by show _ < (arrV _ _ _).slots.size; rw [arrV_size]; exact hlt⟩ g1 (fun q h => by rw [g3] at h; cases h) (by rw [g2]; exact hkC) (by rw [g2]; exact va_assign hcls) rfl rfl d fun H1 e1 e2 e3 => ?_
  refine kk H1 _ lsA (hH.upd (a := a) (mem' := mem) (e' := .inr (3, N, va_up r z.toNat (some v))) e2 e3 ⟨hBa, han⟩ ?_ ja_ly_in (fun _ _ => rfl)) (hS.put e2 e3 hBa) hl
  show H1[a]? = some (vp_cell _ _)
  rw [e1]
  show some ((vp_cell (cA 3) (N, .inr (.inr (.inr (.inr r))))).setSlot _ _) = some (vp_cell (cA 3) (N, .inr (.inr (.inr (.inr _)))))
  rw [vp_cell_q, vp_cell_q, arrV_store, ja_clamp ⟨by omega, by omega⟩]
  congr 2
  funext q
  by_cases hq : q = z.toNat
  · subst hq
    simp [updV, va_up, va_rf]
  · simp [updV, va_up, hq]
theorem r_objinit (F : ja_F C own cc nl rm) {a index : Nat} (hw : Cond.methodLink own index objectInit ∈ lw_tbg) (hst : (st.map fun v => v.category).sum ≤ 8) (hfr : 1 ≤ rm.frames) (hlo : 20 ≤ rm.locals) (d : decode cc pc = .ok (.invokespecial index, 3)) {pc' : Nat} (hpc : pc + 3 = pc') (kk : ja_W C cells slots lay mem n pc' ls st) : ja_W C cells slots lay mem n pc ls (.ref a :: st) := by
  subst hpc
  obtain ⟨p, l, e, R, s, m, args, below, meth, c, D, cA, B, nL, Q⟩ := C
  obtain ⟨hnl, hrm, hx, hb, hml, hown, hts, ⟨hK, hAO, hNw⟩, hlk, hB⟩ := F
  subst hnl; subst hrm
  intro H locs lsA hH hS hl
  refine W.objInit hx hb hown (hts _ hw) (hts (.instanceMethod objectInit) (by decide +kernel)) (hts (.code objectInit ⟨#[0xb1]⟩ 1 none) (by decide +kernel)) rfl (by rw [hml]; exact hl.1) rfl d hfr (by show 2 * 0 + _ + _ ≤ _; omega) ?_
  exact kk H locs lsA hH hS hl
-- arraycopy
def ja_cp (mem : ja_M) (a0 a1 sp dp k : Nat) : ja_M := fun q j => if q = a1 ∧ dp ≤ j ∧ j < dp + k then mem a0 (sp + (j - dp)) else mem q j
theorem ja_cp_o {mem : ja_M} {a0 a1 sp dp k : Nat} : ∀ q, q ≠ a1 → ja_cp mem a0 a1 sp dp k q = mem q := fun q hq => by funext j; simp [ja_cp, hq]
theorem ja_cpy {mem : ja_M} {a0 a1 sp dp k : Nat} : ja_cp mem a0 a1 sp dp k a1 = va_cpy (mem a0) (mem a1) sp dp k := by funext j; simp [ja_cp, va_cpy]
theorem ja_cpyf {α : Type} (h : Int → α) (f g : Nat → Int) (sp dp k : Nat) : (fun j => h (va_cpy f g sp dp k j)) = va_cpy (fun j => h (f j)) (fun j => h (g j)) sp dp k := by funext j; unfold va_cpy; split <;> rfl
theorem ja_two {D : va_G} {cA : Nat → ClassId} {B n : Nat} {lay : ja_Y} {mem : ja_M} {H : Heap} (hH : ja_H D cA B lay mem n H) {a0 a1 : Nat} {e0 e1 : ja_E} (h0 : lay a0 = some e0) (h1 : lay a1 = some e1) : va_P D vwCl [(a0, ja_cell cA e0 (mem a0)), (a1, ja_cell cA e1 (mem a1))] H := fun q w hq => by
  match q, hq with
  | 0, hq => cases hq; exact (hH.2 a0 _ h0).2.2
  | 1, hq => cases hq; exact (hH.2 a1 _ h1).2.2
  | q + 2, hq => simp at hq
end
end
section
section
variable {C : ja_C} {own : String} {cc : ByteArray} {nl : Nat} {rm : Room} {cells slots n : Nat} {lay : ja_Y} {mem : ja_M} {pc : Nat} {ls : List (Option Value)} {st : List Value}
theorem r_copy0 (F : ja_F C own cc nl rm) {a0 a1 n0 n1 index : Nat} {r0 r1 : Nat → Option Nat} {z : Int} (hw1 : Cond.methodLink own index arraycopyName ∈ lw_tbg) (hy0 : lay a0 = some (.inr (0, n0, r0))) (hy1 : lay a1 = some (.inr (0, n1, r1))) (hz0 : 0 ≤ z) (hz1 : z ≤ n0) (hz2 : z ≤ n1) (hz3 : z < 2147483648) (hst : (st.map fun v => v.category).sum ≤ 8) (hfr : 1 ≤ rm.frames) (hlo : 40 ≤ rm.locals) (d : decode cc pc = .ok (.invokestatic index, 3)) {pc' : Nat} (hpc : pc + 3 = pc') (kk : ja_W C cells slots lay (ja_cp mem a0 a1 0 0 z.toNat) n pc' ls st) : ja_W C cells slots lay mem n pc ls (.int (ja_I z) :: .int (ja_I 0) :: .ref a1 :: .int (ja_I 0) :: .ref a0 :: st) := by
  subst hpc
  obtain ⟨p, l, e, R, s, m, args, below, meth, c, D, cA, B, nL, Q⟩ := C
  obtain ⟨hnl, hrm, hx, hb, hml, hown, hts, ⟨hK, hAO, hNw⟩, hlk, hB⟩ := F
  subst hnl; subst hrm
  intro H locs lsA hH hS hl T hT X
  have hzi : ja_in z := ⟨by omega, by omega⟩
  have hzc := ja_clamp hzi
  have hnw : nativeFrameWords "java/lang/System" "arraycopy" 5 + 11 ≤ 32 := by decide +kernel
  have h0c : (ja_I 0).toNatClampNeg = 0 := ja_clamp ja_in0
  have h0t : (ja_I 0).toInt = 0 := ja_toInt ja_in0
  obtain ⟨hBa, han, hc1⟩ := hH.2 a1 _ hy1
  have hc0 : H[a0]? = some (vp_cell (cA 0) (n0, .inl (fun j => ja_I (mem a0 j)))) := (hH.2 a0 _ hy0).2.2
  have hc1 : H[a1]? = some (vp_cell (cA 0) (n1, .inl (fun j => ja_I (mem a1 j)))) := hc1
  obtain ⟨-, k0, hk0, cm0, hkk0⟩ := (hK.2 0 _ rfl).1 n0 (fun j => .int (ja_I (mem a0 j)))
  obtain ⟨-, k1, hk1, cm1, hkk1⟩ := (hK.2 0 _ rfl).1 n1 (fun j => .int (ja_I (mem a1 j)))
  obtain ⟨vm', X', step⟩ := X.arraycopy hx hown (hts _ hw1) (hts (.native arraycopyName) (by decide +kernel)) (hts (.static arraycopyName) (by decide +kernel)) (hts (.initialized "java/lang/System") (by decide +kernel)) (src := a0) (dst := a1) (cs := vp_cell (cA 0) (n0, .inl (fun j => ja_I (mem a0 j)))) (cd := vp_cell (cA 0) (n1, .inl (fun j => ja_I (mem a1 j)))) (srcPos := ja_I 0) (destPos := ja_I 0) (n := ja_I z) (by rw [hT]; exact hc0) (by rw [hT]; exact hc1)
    (fun _ h => by cases h) (fun _ h => by cases h) (fun h => by cases h) (fun h => by cases h) hk0 hk1 hkk0 hkk1 (by simp [refKind]) (by decide) (by decide) (by rw [ja_zero, ja_lt hzi ja_in0]; omega)
    (by rw [h0t, ja_toInt hzi]; show ¬ _ > ((arrV (cA 0) n0 _).slots.size : Int); rw [arrV_size]; omega)
    (by rw [h0t, ja_toInt hzi]; show ¬ _ > ((arrV (cA 0) n1 _).slots.size : Int); rw [arrV_size]; omega)
    (fun vm₁ _ i hi => by
      rw [hzc] at hi
      have e : (vp_cell (cA 0) (n0, .inl (fun j => ja_I (mem a0 j)))).slots.getD ((ja_I 0).toNatClampNeg + i) .null = .int (ja_I (mem a0 (0 + i))) := by
        rw [h0c]
        show (arrV (cA 0) n0 (fun j => .int (ja_I (mem a0 j)))).slots.getD _ _ = _
        rw [Array.getD_eq_getD_getElem?, arrV_read _ _ (by omega)]
        rfl
      refine ⟨?_, ?_⟩
      · rw [e]
        rfl
      · rw [e]
        exact trivial)
    (g := F0 m pc lsA (.int (ja_I z) :: .int (ja_I 0) :: .ref a1 :: .int (ja_I 0) :: .ref a0 :: st)) rfl (by rw [hml]; exact hl.1) (rest := st) rfl (by rw [hb]; exact d) hfr (by show 2 * 0 + _ + _ ≤ _; omega)
  have e1 : copied (vp_cell (cA 0) (n0, .inl (fun j => ja_I (mem a0 j)))) (vp_cell (cA 0) (n1, .inl (fun j => ja_I (mem a1 j)))) (ja_I 0) (ja_I 0) (ja_I z) = vp_cell (cA 0) (n1, .inl (fun j => ja_I (ja_cp mem a0 a1 0 0 z.toNat a1 j))) := by
    have := va_copied (n0 := n0) (n1 := n1) (fun z => Value.int z) (cA 0) (cA 0) (fun j => ja_I (mem a0 j)) (fun j => ja_I (mem a1 j)) (sp := (ja_I 0).toNatClampNeg) (dp := (ja_I 0).toNatClampNeg) (n := (ja_I z).toNatClampNeg) (by rw [h0c, hzc]; omega)
    rw [ja_cpy, ja_cpyf ja_I]
    rw [h0c, hzc] at this
    refine Eq.trans ?_ this
    show copied _ _ _ _ _ = _
    unfold copied
    rw [h0c, hzc]
    rfl
  rw [e1] at X' step
  have hla : a1 < H.size := (Array.getElem?_eq_some_iff.mp hc1).1
  generalize hcell : vp_cell (cA 0) (n1, .inl (fun j => ja_I (ja_cp mem a0 a1 0 0 z.toNat a1 j))) = newc at X' step
  have hheap : ((T.setVm vm').setCell a1 newc).heap = H.setIfInBounds a1 newc := by rw [← hT]; rfl
  have oq : ∀ q : Nat, q ≠ a1 → (H.setIfInBounds a1 newc)[q]? = H[q]? := fun q hq => by simp [Array.getElem?_setIfInBounds, Ne.symm hq]
  have hself : (H.setIfInBounds a1 newc)[a1]? = some newc := by simp [Array.getElem?_setIfInBounds, hla]
  obtain ⟨t, a2, b1⟩ := kk (H.setIfInBounds a1 newc) _ lsA (hH.upd (a := a1) (e' := .inr (0, n1, r1)) (by simp) oq ⟨hBa, han⟩ (show (H.setIfInBounds a1 newc)[a1]? = some (vp_cell (cA 0) (n1, .inl (fun j => ja_I (ja_cp mem a0 a1 0 0 z.toNat a1 j)))) by rw [hself, hcell]) (ja_same hy1) ja_cp_o) ⟨by simp; exact hS.1, fun q g1 g2 => by
      rw [oq q (fun e => g2 (by rw [e]; exact hBa))]
      exact hS.2.1 q g1 g2, fun q hq => by
      rcases List.mem_append.mp hq with h | h
      · exact hS.2.2 q h
      · obtain ⟨z, -, hz⟩ := List.mem_map.mp h
        rw [← hz]
        exact hBa⟩ hl _ hheap X'
  exact ⟨t, step t a2, b1⟩
theorem r_copy1 (F : ja_F C own cc nl rm) {a0 a1 n0 n1 index : Nat} {r0 r1 : Nat → Option Nat} {z : Int} (hw1 : Cond.methodLink own index arraycopyName ∈ lw_tbg) (hy0 : lay a0 = some (.inr (1, n0, r0))) (hy1 : lay a1 = some (.inr (1, n1, r1))) (hz0 : 0 ≤ z) (hz1 : z ≤ n0) (hz2 : z ≤ n1) (hz3 : z < 2147483648) (hst : (st.map fun v => v.category).sum ≤ 8) (hfr : 1 ≤ rm.frames) (hlo : 40 ≤ rm.locals) (d : decode cc pc = .ok (.invokestatic index, 3)) {pc' : Nat} (hpc : pc + 3 = pc') (kk : ja_W C cells slots lay (ja_cp mem a0 a1 0 0 z.toNat) n pc' ls st) : ja_W C cells slots lay mem n pc ls (.int (ja_I z) :: .int (ja_I 0) :: .ref a1 :: .int (ja_I 0) :: .ref a0 :: st) := by
  subst hpc
  obtain ⟨p, l, e, R, s, m, args, below, meth, c, D, cA, B, nL, Q⟩ := C
  obtain ⟨hnl, hrm, hx, hb, hml, hown, hts, ⟨hK, hAO, hNw⟩, hlk, hB⟩ := F
  subst hnl; subst hrm
  intro H locs lsA hH hS hl T hT X
  have hzi : ja_in z := ⟨by omega, by omega⟩
  have hzc := ja_clamp hzi
  have hnw : nativeFrameWords "java/lang/System" "arraycopy" 5 + 11 ≤ 32 := by decide +kernel
  have h0c : (ja_I 0).toNatClampNeg = 0 := ja_clamp ja_in0
  have h0t : (ja_I 0).toInt = 0 := ja_toInt ja_in0
  obtain ⟨hBa, han, hc1⟩ := hH.2 a1 _ hy1
  have hc0 : H[a0]? = some (vp_cell (cA 1) (n0, .inr (.inl (fun j => ja_L (mem a0 j))))) := (hH.2 a0 _ hy0).2.2
  have hc1 : H[a1]? = some (vp_cell (cA 1) (n1, .inr (.inl (fun j => ja_L (mem a1 j))))) := hc1
  obtain ⟨-, k0, hk0, cm0, hkk0⟩ := (hK.2 1 _ rfl).1 n0 (fun j => .long (ja_L (mem a0 j)))
  obtain ⟨-, k1, hk1, cm1, hkk1⟩ := (hK.2 1 _ rfl).1 n1 (fun j => .long (ja_L (mem a1 j)))
  obtain ⟨vm', X', step⟩ := X.arraycopy hx hown (hts _ hw1) (hts (.native arraycopyName) (by decide +kernel)) (hts (.static arraycopyName) (by decide +kernel)) (hts (.initialized "java/lang/System") (by decide +kernel)) (src := a0) (dst := a1) (cs := vp_cell (cA 1) (n0, .inr (.inl (fun j => ja_L (mem a0 j))))) (cd := vp_cell (cA 1) (n1, .inr (.inl (fun j => ja_L (mem a1 j))))) (srcPos := ja_I 0) (destPos := ja_I 0) (n := ja_I z) (by rw [hT]; exact hc0) (by rw [hT]; exact hc1)
    (fun _ h => by cases h) (fun _ h => by cases h) (fun h => by cases h) (fun h => by cases h) hk0 hk1 hkk0 hkk1 (by simp [refKind]) (by decide) (by decide) (by rw [ja_zero, ja_lt hzi ja_in0]; omega)
    (by rw [h0t, ja_toInt hzi]; show ¬ _ > ((arrV (cA 1) n0 _).slots.size : Int); rw [arrV_size]; omega)
    (by rw [h0t, ja_toInt hzi]; show ¬ _ > ((arrV (cA 1) n1 _).slots.size : Int); rw [arrV_size]; omega)
    (fun vm₁ _ i hi => by
      rw [hzc] at hi
      have e : (vp_cell (cA 1) (n0, .inr (.inl (fun j => ja_L (mem a0 j))))).slots.getD ((ja_I 0).toNatClampNeg + i) .null = .long (ja_L (mem a0 (0 + i))) := by
        rw [h0c]
        show (arrV (cA 1) n0 (fun j => .long (ja_L (mem a0 j)))).slots.getD _ _ = _
        rw [Array.getD_eq_getD_getElem?, arrV_read _ _ (by omega)]
        rfl
      refine ⟨?_, ?_⟩
      · rw [e]
        rfl
      · rw [e]
        exact trivial)
    (g := F0 m pc lsA (.int (ja_I z) :: .int (ja_I 0) :: .ref a1 :: .int (ja_I 0) :: .ref a0 :: st)) rfl (by rw [hml]; exact hl.1) (rest := st) rfl (by rw [hb]; exact d) hfr (by show 2 * 0 + _ + _ ≤ _; omega)
  have e1 : copied (vp_cell (cA 1) (n0, .inr (.inl (fun j => ja_L (mem a0 j))))) (vp_cell (cA 1) (n1, .inr (.inl (fun j => ja_L (mem a1 j))))) (ja_I 0) (ja_I 0) (ja_I z) = vp_cell (cA 1) (n1, .inr (.inl (fun j => ja_L (ja_cp mem a0 a1 0 0 z.toNat a1 j)))) := by
    have := va_copied (n0 := n0) (n1 := n1) (fun z => Value.long z) (cA 1) (cA 1) (fun j => ja_L (mem a0 j)) (fun j => ja_L (mem a1 j)) (sp := (ja_I 0).toNatClampNeg) (dp := (ja_I 0).toNatClampNeg) (n := (ja_I z).toNatClampNeg) (by rw [h0c, hzc]; omega)
    rw [ja_cpy, ja_cpyf ja_L]
    rw [h0c, hzc] at this
    refine Eq.trans ?_ this
    show copied _ _ _ _ _ = _
    unfold copied
    rw [h0c, hzc]
    rfl
  rw [e1] at X' step
  have hla : a1 < H.size := (Array.getElem?_eq_some_iff.mp hc1).1
  generalize hcell : vp_cell (cA 1) (n1, .inr (.inl (fun j => ja_L (ja_cp mem a0 a1 0 0 z.toNat a1 j)))) = newc at X' step
  have hheap : ((T.setVm vm').setCell a1 newc).heap = H.setIfInBounds a1 newc := by rw [← hT]; rfl
  have oq : ∀ q : Nat, q ≠ a1 → (H.setIfInBounds a1 newc)[q]? = H[q]? := fun q hq => by simp [Array.getElem?_setIfInBounds, Ne.symm hq]
  have hself : (H.setIfInBounds a1 newc)[a1]? = some newc := by simp [Array.getElem?_setIfInBounds, hla]
  obtain ⟨t, a2, b1⟩ := kk (H.setIfInBounds a1 newc) _ lsA (hH.upd (a := a1) (e' := .inr (1, n1, r1)) (by simp) oq ⟨hBa, han⟩ (show (H.setIfInBounds a1 newc)[a1]? = some (vp_cell (cA 1) (n1, .inr (.inl (fun j => ja_L (ja_cp mem a0 a1 0 0 z.toNat a1 j))))) by rw [hself, hcell]) (ja_same hy1) ja_cp_o) ⟨by simp; exact hS.1, fun q g1 g2 => by
      rw [oq q (fun e => g2 (by rw [e]; exact hBa))]
      exact hS.2.1 q g1 g2, fun q hq => by
      rcases List.mem_append.mp hq with h | h
      · exact hS.2.2 q h
      · obtain ⟨z, -, hz⟩ := List.mem_map.mp h
        rw [← hz]
        exact hBa⟩ hl _ hheap X'
  exact ⟨t, step t a2, b1⟩
end
end
section
-- contracts
abbrev ja_P : Type := Option Value → ja_Y → ja_M → Nat → Prop
def ja_Qc (B : Nat) (D : va_G) (cA : Nat → ClassId) (post : ja_P) : Array Value → State → Outcome → State → Prop := fun _ st o t => (∃ (v : Option Value) (lay' : ja_Y) (mem' : ja_M) (n' : Nat), o = .returned v ∧ post v lay' mem' n' ∧ ja_H D cA B lay' mem' n' t.heap) ∧ va_F (fun q => B ≤ q) st t
def ja_Pc (B : Nat) (D : va_G) (cA : Nat → ClassId) (av : List Value) (lay : ja_Y) (mem : ja_M) (n : Nat) : Array Value → State → Prop := va_Pc av (fun U => ja_H D cA B lay mem n U.heap ∧ ja_K D cA U ∧ B ≤ U.heap.size)
def ja_ws (y : MethodName) (cc : ByteArray) (nL : Nat) (ret : Option FieldType) : List Cond := Cond.code y cc nL ret :: lw_tbg
/-- the contract of a method: its room, its arguments, the world at its start, what holds at its end -/
def ja_Mt (l : Launch) (D : va_G) (cA : Nat → ClassId) (B : Nat) (y : MethodName) (cc : ByteArray) (nL : Nat) (ret : Option FieldType) (rm : Room) (av : List Value) (lay : ja_Y) (mem : ja_M) (n : Nat) (post : ja_P) : Prop := Met l y (ja_ws y cc nL ret) rm (ja_Pc B D cA av lay mem n) (ja_Qc B D cA post) rm.cells rm.slots (fun q => B ≤ q)
/-- what a walk's end must be -/
def ja_R (C : ja_C) (ret : Option FieldType) (rm : Room) (post : ja_P) : Prop := match C with
  | (p, l, e, R, s, m, args, below, meth, c, D, cA, B, nL, Q) => meth.sig.returnType = ret ∧ Q = MQ below (ja_Qc B D cA post) args s rm.cells rm.slots (fun q => B ≤ q)
/-- the parts of a walk that its calls speak of -/
def ja_G (C : ja_C) (l0 : Launch) (D0 : va_G) (cA0 : Nat → ClassId) (B0 : Nat) : Prop := match C with
  | (p, l, e, R, s, m, args, below, meth, c, D, cA, B, nL, Q) => l = l0 ∧ D = D0 ∧ cA = cA0 ∧ B = B0
theorem ja_enter {l : Launch} {D : va_G} {cA : Nat → ClassId} {B : Nat} {y : MethodName} {cc : ByteArray} {nL : Nat} {ret : Option FieldType} {rm : Room} {av : List Value} {lay : ja_Y} {mem : ja_M} {n : Nat} {post : ja_P} (ls : List (Option Value)) (hy : plainName y.cls = true) (hlen : (lg_sl av).length ≤ nL) (hls : ∀ q ∈ ja_al 0 ls, q ∈ lv_args 0 av)
    (body : ∀ C : ja_C, ja_F C y.cls cc nL rm → ja_R C ret rm post → ja_G C l D cA B → C.2.2.2.2.2.2.2.2.1.name = y.name → ja_W C 0 0 lay mem n 0 ls []) : ja_Mt l D cA B y cc nL ret rm av lay mem n post := by
  refine Met.ofW (cc := cc) (maxL := nL) (ret := ret) hy rfl ?_
  intro p e s m args below meth c s₁ Bd hml hv
  obtain ⟨rfl, hH, hK, hB⟩ := hv
  have hx := Bd.exec
  have hb := Bd.bytes
  have hr := Bd.returns
  have hts0 := atoms_spec (ws := ja_ws y cc nL ret) Bd.pre
  have hts : ∀ w ∈ lw_tbg, w.before av.toArray s = true := fun w hw => hts0 w (List.mem_cons_of_mem _ hw)
  have hown : s.vm.findClass y.cls = some m.cls := findClass_of_methodNamed Bd.named
  have hlocks := Bd.notSynchronized
  have hname : meth.name = y.name := (name_of_methodNamed Bd.named Bd.method).1
  have hl := lv_entry av hlen
  rw [lg_entry_eq]
  generalize (lg_sl av ++ List.replicate (nL - (lg_sl av).length) Slot.unset).toArray = lsA at hl ⊢
  have h := body (p, l, e, rm, s, m, av.toArray, below, meth, c, D, cA, B, nL, MQ below (ja_Qc B D cA post) av.toArray s rm.cells rm.slots (fun q => B ≤ q)) ⟨rfl, rfl, hx, hb, hml, hown, hts, hK, hlocks, hB⟩ ⟨hr, rfl⟩ ⟨rfl, rfl, rfl, rfl⟩ hname
  exact h s.heap [] lsA hH va_S.rf (ja_has_sub hl hls)
theorem lw_good : lw_tbg.all goodWord = true := List.all_eq_true.mpr fun w hw => (List.mem_filter.mp hw).2
theorem ja_goodIn {ws : List Cond} (h : ∀ w ∈ ws, w ∈ lw_tbg) : GoodIn lw_tbg ws := fun w hw => ⟨h w hw, good_of_word (List.all_eq_true.mp lw_good w (h w hw))⟩
/-- a call's words: the link, the callee's code -/
def ja_Cv (own : String) (index : Nat) (y : MethodName) (cc : ByteArray) (nL : Nat) (ret : Option FieldType) (na : Nat) : Prop := Cond.methodLink own index y ∈ lw_tbg ∧ Cond.instanceMethod y ∈ lw_tbg ∧ Cond.selects y.cls y y ∈ lw_tbg ∧ Cond.initialized y.cls ∈ lw_tbg ∧ Cond.code y cc nL ret ∈ lw_tbg ∧ y.cls ≠ "java/lang/invoke/MethodHandle" ∧ y.cls ≠ "java/lang/invoke/VarHandle" ∧ (parseMethodDescriptor y.desc).map (fun d => d.parameters.length) = some na
def ja_Cs (own : String) (index : Nat) (y : MethodName) (cc : ByteArray) (nL : Nat) (ret : Option FieldType) (na : Nat) : Prop := Cond.methodLink own index y ∈ lw_tbg ∧ Cond.static y ∈ lw_tbg ∧ Cond.initialized y.cls ∈ lw_tbg ∧ Cond.code y cc nL ret ∈ lw_tbg ∧ y.cls ≠ "java/lang/invoke/MethodHandle" ∧ y.cls ≠ "java/lang/invoke/VarHandle" ∧ (parseMethodDescriptor y.desc).map (fun d => d.parameters.length) = some na
def ja_Ci (own : String) (index : Nat) (y : MethodName) (cc : ByteArray) (nL : Nat) (na : Nat) : Prop := Cond.methodLink own index y ∈ lw_tbg ∧ Cond.instanceMethod y ∈ lw_tbg ∧ Cond.initialized y.cls ∈ lw_tbg ∧ Cond.code y cc nL none ∈ lw_tbg ∧ y.cls ≠ "java/lang/invoke/MethodHandle" ∧ y.cls ≠ "java/lang/invoke/VarHandle" ∧ (parseMethodDescriptor y.desc).map (fun d => d.parameters.length) = some na ∧ y.name = "<init>"
def ja_CiN (own : String) (index : Nat) (y : MethodName) (cc : ByteArray) (nL : Nat) (na : Nat) : Prop := (∃ host : String, Cond.methodLinkNest own index y host ∈ lw_tbl) ∧ Cond.instanceMethod y ∈ lw_tbg ∧ Cond.initialized y.cls ∈ lw_tbg ∧ Cond.code y cc nL none ∈ lw_tbg ∧ y.cls ≠ "java/lang/invoke/MethodHandle" ∧ y.cls ≠ "java/lang/invoke/VarHandle" ∧ (parseMethodDescriptor y.desc).map (fun d => d.parameters.length) = some na ∧ y.name = "<init>"
theorem ja_blind {B : Nat} {D : va_G} {cA : Nat → ClassId} {av : List Value} {lay : ja_Y} {mem : ja_M} {n : Nat} : FrameBlind (ja_Pc B D cA av lay mem n) := fun a U g mk h => ⟨h.1, h.2.1, ja_K.call g mk a h.2.2.1, h.2.2.2⟩
theorem ja_back {p : Program} {l : Launch} {e : Env} {R : Room} {s : State} {m : MethodId} {args : Array Value} {below : List Frame} {meth : Method} {c : Code} {H : Heap} {locs : List Loc} {cells slots mc ms pc : Nat} {Q : State → Prop} {lsA : Array Slot} {st0 rest : List Value} {a : Array Value} {B : Nat} {D : va_G} {cA : Nat → ClassId} {post : ja_P}
    (hr : va_Run p l e R s m args below meth c H locs cells slots mc ms (F0 m pc lsA st0) rest (ja_Qc B D cA post a) (fun q => B ≤ q)) (hS : va_S (fun q => B ≤ q) s.heap H locs)
    (kk : ∀ (v : Option Value) (lay' : ja_Y) (mem' : ja_M) (n' : Nat) (H1 : Heap) (locs1 : List Loc), post v lay' mem' n' → ja_H D cA B lay' mem' n' H1 → va_S (fun q => B ≤ q) s.heap H1 locs1 → W p l e R s m args below meth c H1 locs1 (cells + mc) (slots + ms) Q (F0 m (pc + 3) lsA (v.toList ++ rest))) : W p l e R s m args below meth c H locs cells slots Q (F0 m pc lsA st0) := by
  intro T hT X
  obtain ⟨v, st₀, t, T', L, h0, X', hL, e1, e2, ⟨⟨v', lay', mem', n', hv, hp, hH⟩, hz, hk⟩, st⟩ := hr T hT X
  cases hv
  rw [h0] at hz hk
  obtain ⟨t2, a1, b1⟩ := kk v lay' mem' n' T'.heap (locs ++ L) hp (by rw [e1]; exact hH)
    ⟨Nat.le_trans hS.1 (by rw [e1]; exact hz), fun q h1 h2 => by rw [e1, hk q (Nat.lt_of_lt_of_le h1 hS.1) h2]; exact hS.2.1 q h1 h2, fun q hq => by
      rcases List.mem_append.mp hq with h | h
      · exact hS.2.2 q h
      · exact hL q h⟩ T' rfl X'
  exact ⟨t2, st t2 a1, b1⟩
section
variable {C : ja_C} {own : String} {cc : ByteArray} {nl : Nat} {rm : Room} {cells slots n : Nat} {lay : ja_Y} {mem : ja_M} {pc : Nat} {ls : List (Option Value)} {st : List Value}
theorem r_callV (F : ja_F C own cc nl rm) {l0 : Launch} {D0 : va_G} {cA0 : Nat → ClassId} {B0 : Nat} (G : ja_G C l0 D0 cA0 B0) {y : MethodName} {cc' : ByteArray} {nL' : Nat} {ret' : Option FieldType} {rm' : Room} {As : List Value} {a index ci na : Nat} {ds : List (Option Value)} {post : ja_P} (hM : ja_Mt l0 D0 cA0 B0 y cc' nL' ret' rm' (.ref a :: As) lay mem n post) (f : ja_Cv own index y cc' nL' ret' na) (hna : As.length = na) (hy : lay a = some (.inl (ci, ds))) (hcl : vwCl[ci]?.map (·.1) = some y.cls) (hR : rm'.frames + 1 ≤ rm.frames ∧ 8 + (nL' + 11) + rm'.locals ≤ rm.locals) (hcs : cells + rm'.cells ≤ rm.cells ∧ slots + rm'.slots ≤ rm.slots) (hst : (st.map fun v => v.category).sum ≤ 8) {st0 : List Value} (he : st0 = As.reverse ++ .ref a :: st) (d : decode cc pc = .ok (.invokevirtual index, 3)) {pc' : Nat} (hpc : pc + 3 = pc')
    (kk : ∀ (v : Option Value) (lay' : ja_Y) (mem' : ja_M) (n' : Nat), post v lay' mem' n' → ja_W C (cells + rm'.cells) (slots + rm'.slots) lay' mem' n' pc' ls (v.toList ++ st)) : ja_W C cells slots lay mem n pc ls st0 := by
  subst hpc
  subst he
  obtain ⟨p, l, e, R, s, m, args, below, meth, c, D, cA, B, nL, Q⟩ := C
  obtain ⟨hnl, hrm, hx, hb, hml, hown, hts, ⟨hK, hAO, hNw⟩, hlk, hB⟩ := F
  obtain ⟨rfl, rfl, rfl, rfl⟩ := G
  subst hnl; subst hrm
  obtain ⟨f1, f2, f3, f4, f5, f6, f7, f8⟩ := f
  intro H locs lsA hH hS hl
  have hat := (hH.2 a _ hy).2.2
  have hP : va_P D vwCl [(a, .inr (ci, ja_fs 0 ds (mem a)))] H := fun q w hq => by
    cases q with
    | zero => cases hq; exact hat
    | succ q => simp at hq
  obtain ⟨r, hr1, hr2⟩ := Option.map_eq_some_iff.mp hcl
  have hrecv := va_recv hK hP hr1 (q0 := 0) rfl
  rw [hr2] at hrecv
  have hG : GoodIn lw_tbg (wsV own index y.cls y (ja_ws y cc' nL' ret')) := ja_goodIn (fun w hw => by
    rcases List.mem_append.mp hw with h | h
    · simp only [List.mem_cons, List.not_mem_nil, or_false] at h
      rcases h with rfl | rfl | rfl | rfl
      · exact f1
      · exact f2
      · exact f3
      · exact f4
    · rcases List.mem_cons.mp h with rfl | h
      · exact f5
      · exact h)
  have cw := cwV (R := R) (s := s) (args := args) (rm := rm') (mc := rm'.cells) (ms := rm'.slots) (ws' := lw_tbg) na hts hG rfl rfl rfl ⟨rfl, f6, f7, f8⟩ hR
  refine ja_back (va_runV (As := As) (rest := st) ⟨hx, hb, hml, hown, hts⟩ hM cw ⟨ja_blind, hrecv, fun U hU hW => ⟨rfl, by rw [hU]; exact hH, ja_K.warm hW ⟨hK, hAO, hNw⟩, by rw [hU]; exact Nat.le_trans hB hS.1⟩⟩ rfl hna hl.1 rfl (lv_room hst) d hcs) hS ?_
  intro v lay' mem' n' H1 locs1 hp hH1 hS1
  exact kk v lay' mem' n' hp H1 locs1 lsA hH1 hS1 hl
theorem r_callS (F : ja_F C own cc nl rm) {l0 : Launch} {D0 : va_G} {cA0 : Nat → ClassId} {B0 : Nat} (G : ja_G C l0 D0 cA0 B0) {y : MethodName} {cc' : ByteArray} {nL' : Nat} {ret' : Option FieldType} {rm' : Room} {As : List Value} {index na : Nat} {post : ja_P} (hM : ja_Mt l0 D0 cA0 B0 y cc' nL' ret' rm' As lay mem n post) (f : ja_Cs own index y cc' nL' ret' na) (hna : As.length = na) (hR : rm'.frames + 1 ≤ rm.frames ∧ 8 + (nL' + 11) + rm'.locals ≤ rm.locals) (hcs : cells + rm'.cells ≤ rm.cells ∧ slots + rm'.slots ≤ rm.slots) (hst : (st.map fun v => v.category).sum ≤ 8) {st0 : List Value} (he : st0 = As.reverse ++ st) (d : decode cc pc = .ok (.invokestatic index, 3)) {pc' : Nat} (hpc : pc + 3 = pc')
    (kk : ∀ (v : Option Value) (lay' : ja_Y) (mem' : ja_M) (n' : Nat), post v lay' mem' n' → ja_W C (cells + rm'.cells) (slots + rm'.slots) lay' mem' n' pc' ls (v.toList ++ st)) : ja_W C cells slots lay mem n pc ls st0 := by
  subst hpc
  subst he
  obtain ⟨p, l, e, R, s, m, args, below, meth, c, D, cA, B, nL, Q⟩ := C
  obtain ⟨hnl, hrm, hx, hb, hml, hown, hts, ⟨hK, hAO, hNw⟩, hlk, hB⟩ := F
  obtain ⟨rfl, rfl, rfl, rfl⟩ := G
  subst hnl; subst hrm
  obtain ⟨f1, f2, f4, f5, f6, f7, f8⟩ := f
  intro H locs lsA hH hS hl
  have hG : GoodIn lw_tbg (va_wsS own index y (ja_ws y cc' nL' ret')) := ja_goodIn (fun w hw => by
    rcases List.mem_append.mp hw with h | h
    · simp only [List.mem_cons, List.not_mem_nil, or_false] at h
      rcases h with rfl | rfl | rfl
      · exact f1
      · exact f2
      · exact f4
    · rcases List.mem_cons.mp h with rfl | h
      · exact f5
      · exact h)
  have cw := va_cwS (R := R) (s := s) (args := args) (rm := rm') (mc := rm'.cells) (ms := rm'.slots) (ws' := lw_tbg) na hts hG rfl rfl rfl ⟨f6, f7, f8⟩ hR
  refine ja_back (va_runS (As := As) (rest := st) ⟨hx, hb, hml, hown, hts⟩ hM cw ⟨ja_blind, fun U hU hW => ⟨rfl, by rw [hU]; exact hH, ja_K.warm hW ⟨hK, hAO, hNw⟩, by rw [hU]; exact Nat.le_trans hB hS.1⟩⟩ rfl hna hl.1 rfl (lv_room hst) d hcs) hS ?_
  intro v lay' mem' n' H1 locs1 hp hH1 hS1
  exact kk v lay' mem' n' hp H1 locs1 lsA hH1 hS1 hl
theorem r_callI (F : ja_F C own cc nl rm) {l0 : Launch} {D0 : va_G} {cA0 : Nat → ClassId} {B0 : Nat} (G : ja_G C l0 D0 cA0 B0) {y : MethodName} {cc' : ByteArray} {nL' : Nat} {rm' : Room} {As : List Value} {a index na : Nat} {post : ja_P} (hM : ja_Mt l0 D0 cA0 B0 y cc' nL' none rm' (.ref a :: As) lay mem n post) (f : ja_Ci own index y cc' nL' na) (hna : As.length = na) (hR : rm'.frames + 1 ≤ rm.frames ∧ 8 + (nL' + 11) + rm'.locals ≤ rm.locals) (hcs : cells + rm'.cells ≤ rm.cells ∧ slots + rm'.slots ≤ rm.slots) (hst : (st.map fun v => v.category).sum ≤ 8) {st0 : List Value} (he : st0 = As.reverse ++ .ref a :: st) (d : decode cc pc = .ok (.invokespecial index, 3)) {pc' : Nat} (hpc : pc + 3 = pc')
    (kk : ∀ (v : Option Value) (lay' : ja_Y) (mem' : ja_M) (n' : Nat), post v lay' mem' n' → ja_W C (cells + rm'.cells) (slots + rm'.slots) lay' mem' n' pc' ls (v.toList ++ st)) : ja_W C cells slots lay mem n pc ls st0 := by
  subst hpc
  subst he
  obtain ⟨p, l, e, R, s, m, args, below, meth, c, D, cA, B, nL, Q⟩ := C
  obtain ⟨hnl, hrm, hx, hb, hml, hown, hts, ⟨hK, hAO, hNw⟩, hlk, hB⟩ := F
  obtain ⟨rfl, rfl, rfl, rfl⟩ := G
  subst hnl; subst hrm
  obtain ⟨f1, f2, f4, f5, f6, f7, f8, f9⟩ := f
  intro H locs lsA hH hS hl
  have hG : GoodIn lw_tbg (ja_ws y cc' nL' none) := ja_goodIn (fun w hw => by
    rcases List.mem_cons.mp hw with rfl | h
    · exact f5
    · exact h)
  have cw := cwI (own := own) (index := index) (R := R) (s := s) (args := args) (rm := rm') (mc := rm'.cells) (ms := rm'.slots) (ws' := lw_tbg) na hts hG rfl rfl rfl (hts _ f4) (hts _ f1) (hts _ f2) f9 ⟨f6, f7, f8⟩ hR
  refine ja_back (va_runI (As := As) (rest := st) ⟨hx, hb, hml, hown, hts⟩ hM cw ⟨ja_blind, fun U hU hW => ⟨rfl, by rw [hU]; exact hH, ja_K.warm hW ⟨hK, hAO, hNw⟩, by rw [hU]; exact Nat.le_trans hB hS.1⟩⟩ rfl hna hl.1 rfl (lv_room hst) d hcs) hS ?_
  intro v lay' mem' n' H1 locs1 hp hH1 hS1
  exact kk v lay' mem' n' hp H1 locs1 lsA hH1 hS1 hl
theorem r_callIN (F : ja_F C own cc nl rm) {l0 : Launch} {D0 : va_G} {cA0 : Nat → ClassId} {B0 : Nat} (G : ja_G C l0 D0 cA0 B0) {y : MethodName} {cc' : ByteArray} {nL' : Nat} {rm' : Room} {As : List Value} {a index na : Nat} {post : ja_P} (hM : ja_Mt l0 D0 cA0 B0 y cc' nL' none rm' (.ref a :: As) lay mem n post) (f : ja_CiN own index y cc' nL' na) (hna : As.length = na) (hR : rm'.frames + 1 ≤ rm.frames ∧ 8 + (nL' + 11) + rm'.locals ≤ rm.locals) (hcs : cells + rm'.cells ≤ rm.cells ∧ slots + rm'.slots ≤ rm.slots) (hst : (st.map fun v => v.category).sum ≤ 8) {st0 : List Value} (he : st0 = As.reverse ++ .ref a :: st) (d : decode cc pc = .ok (.invokespecial index, 3)) {pc' : Nat} (hpc : pc + 3 = pc')
    (kk : ∀ (v : Option Value) (lay' : ja_Y) (mem' : ja_M) (n' : Nat), post v lay' mem' n' → ja_W C (cells + rm'.cells) (slots + rm'.slots) lay' mem' n' pc' ls (v.toList ++ st)) : ja_W C cells slots lay mem n pc ls st0 := by
  subst hpc
  subst he
  obtain ⟨p, l, e, R, s, m, args, below, meth, c, D, cA, B, nL, Q⟩ := C
  obtain ⟨hnl, hrm, hx, hb, hml, hown, hts, ⟨hK, hAO, hNw⟩, hlk, hB⟩ := F
  obtain ⟨rfl, rfl, rfl, rfl⟩ := G
  subst hnl; subst hrm
  obtain ⟨⟨host, f1⟩, f2, f4, f5, f6, f7, f8, f9⟩ := f
  intro H locs lsA hH hS hl
  have hG : GoodIn lw_tbg (ja_ws y cc' nL' none) := ja_goodIn (fun w hw => by
    rcases List.mem_cons.mp hw with rfl | h
    · exact f5
    · exact h)
  have cw := va_cnB (own := own) (host := host) (index := index) (R := R) (s := s) (args := args) (rm := rm') (mc := rm'.cells) (ms := rm'.slots) (ws' := lw_tbg) na hts hG rfl rfl rfl (hNw _ f1 rfl) (hts _ f4) ⟨f6, f7, f8⟩ hR
  refine ja_back (va_runIN (As := As) (rest := st) ⟨hx, hb, hml, hown, hts⟩ hM ⟨cw, f9, hts _ f2⟩ ⟨ja_blind, fun U hU hW => ⟨rfl, by rw [hU]; exact hH, ja_K.warm hW ⟨hK, hAO, hNw⟩, by rw [hU]; exact Nat.le_trans hB hS.1⟩⟩ rfl hna hl.1 rfl (lv_room hst) d hcs) hS ?_
  intro v lay' mem' n' H1 locs1 hp hH1 hS1
  exact kk v lay' mem' n' hp H1 locs1 lsA hH1 hS1 hl
-- Math
theorem ja_ite {a b : Int} {c : Prop} [Decidable c] : (if c then ja_I a else ja_I b) = ja_I (if c then a else b) := by split <;> rfl
theorem r_mmax (F : ja_F C own cc nl rm) {a b : Int} {index : Nat} (ha : ja_in a) (hb1 : ja_in b) (hw : Cond.methodLink own index Lib.Math.max.name ∈ lw_tbg) (hst : (st.map fun v => v.category).sum ≤ 8) (hfr : 1 ≤ rm.frames) (hlo : 21 ≤ rm.locals) (hcs : cells ≤ rm.cells ∧ slots ≤ rm.slots) (d : decode cc pc = .ok (.invokestatic index, 3)) {pc' : Nat} (hpc : pc + 3 = pc') (k : ja_W C cells slots lay mem n pc' ls (.int (ja_I (if a < b then b else a)) :: st)) : ja_W C cells slots lay mem n pc ls (.int (ja_I b) :: .int (ja_I a) :: st) := by
  subst hpc
  obtain ⟨p, l, e, R, s, m, args, below, meth, c, D, cA, B, nL, Q⟩ := C
  obtain ⟨hnl, hrm, hx, hb, hml, hown, hts, ⟨hK, hAO, hNw⟩, hlk, hB⟩ := F
  subst hnl; subst hrm
  intro H locs lsA hH hS hl
  refine va_mmax hx hb (by rw [hml]; exact hl.1.symm) hown (hts _ hw) (hts _ (by decide +kernel)) (hts _ (by decide +kernel)) (hts _ (by decide +kernel)) hfr (by omega) hcs.1 hcs.2 d ?_
  have h := k H locs lsA hH hS hl
  by_cases hc : a < b
  · rw [if_pos ((ja_lt ha hb1).mpr hc)]
    rw [if_pos hc] at h
    exact h
  · rw [if_neg (fun q => hc ((ja_lt ha hb1).mp q))]
    rw [if_neg hc] at h
    exact h
theorem r_mmin (F : ja_F C own cc nl rm) {a b : Int} {index : Nat} (ha : ja_in a) (hb1 : ja_in b) (hw : Cond.methodLink own index Lib.Math.min.name ∈ lw_tbg) (hst : (st.map fun v => v.category).sum ≤ 8) (hfr : 1 ≤ rm.frames) (hlo : 21 ≤ rm.locals) (hcs : cells ≤ rm.cells ∧ slots ≤ rm.slots) (d : decode cc pc = .ok (.invokestatic index, 3)) {pc' : Nat} (hpc : pc + 3 = pc') (k : ja_W C cells slots lay mem n pc' ls (.int (ja_I (if b < a then b else a)) :: st)) : ja_W C cells slots lay mem n pc ls (.int (ja_I b) :: .int (ja_I a) :: st) := by
  subst hpc
  obtain ⟨p, l, e, R, s, m, args, below, meth, c, D, cA, B, nL, Q⟩ := C
  obtain ⟨hnl, hrm, hx, hb, hml, hown, hts, ⟨hK, hAO, hNw⟩, hlk, hB⟩ := F
  subst hnl; subst hrm
  intro H locs lsA hH hS hl
  refine va_mmin hx hb (by rw [hml]; exact hl.1.symm) hown (hts _ hw) (hts _ (by decide +kernel)) (hts _ (by decide +kernel)) (hts _ (by decide +kernel)) hfr (by omega) hcs.1 hcs.2 d ?_
  have h := k H locs lsA hH hS hl
  by_cases hc : b < a
  · rw [if_pos ((ja_lt hb1 ha).mpr hc)]
    rw [if_pos hc] at h
    exact h
  · rw [if_neg (fun q => hc ((ja_lt hb1 ha).mp q))]
    rw [if_neg hc] at h
    exact h
theorem r_mabs (F : ja_F C own cc nl rm) {a : Int} {index : Nat} (ha : ja_in a) (hw : Cond.methodLink own index Lib.Math.abs.name ∈ lw_tbg) (hst : (st.map fun v => v.category).sum ≤ 8) (hfr : 1 ≤ rm.frames) (hlo : 21 ≤ rm.locals) (hcs : cells ≤ rm.cells ∧ slots ≤ rm.slots) (d : decode cc pc = .ok (.invokestatic index, 3)) {pc' : Nat} (hpc : pc + 3 = pc') (k : ja_W C cells slots lay mem n pc' ls (.int (ja_I (if 0 ≤ a then a else 0 - a)) :: st)) : ja_W C cells slots lay mem n pc ls (.int (ja_I a) :: st) := by
  subst hpc
  obtain ⟨p, l, e, R, s, m, args, below, meth, c, D, cA, B, nL, Q⟩ := C
  obtain ⟨hnl, hrm, hx, hb, hml, hown, hts, ⟨hK, hAO, hNw⟩, hlk, hB⟩ := F
  subst hnl; subst hrm
  intro H locs lsA hH hS hl
  refine va_mabs hx hb (by rw [hml]; exact hl.1.symm) hown (hts _ hw) (hts _ (by decide +kernel)) (hts _ (by decide +kernel)) (hts _ (by decide +kernel)) hfr (by omega) hcs.1 hcs.2 d ?_
  have h := k H locs lsA hH hS hl
  by_cases hc : 0 ≤ a
  · rw [if_pos (show (0 : Int32) ≤ ja_I a from (ja_le ja_in0 ha).mpr hc)]
    rw [if_pos hc] at h
    exact h
  · rw [if_neg (show ¬ (0 : Int32) ≤ ja_I a from fun q => hc ((ja_le ja_in0 ha).mp q)), ja_zero, ja_sub]
    rw [if_neg hc] at h
    exact h
-- ends
theorem r_vret (F : ja_F C own cc nl rm) {post : ja_P} (Rt : ja_R C none rm post) (d : decode cc pc = .ok (.return_, 1)) (hcs : cells ≤ rm.cells ∧ slots ≤ rm.slots) (hp : post none lay mem n) : ja_W C cells slots lay mem n pc ls [] := by
  obtain ⟨p, l, e, R, s, m, args, below, meth, c, D, cA, B, nL, Q⟩ := C
  obtain ⟨hnl, hrm, hx, hb, hml, hown, hts, ⟨hK, hAO, hNw⟩, hlk, hB⟩ := F
  obtain ⟨hr, hQ⟩ := Rt
  subst hnl; subst hrm; subst hQ
  intro H locs lsA hH hS hl
  refine W.widen hcs.1 hcs.2 ?_
  exact W.vret hx hb hr (fun t ht hW => ⟨⟨none, lay, mem, n, rfl, hp, by rw [ht]; exact hH⟩, hS.F ht⟩) hS.2.2 d hlk
theorem r_iret (F : ja_F C own cc nl rm) {post : ja_P} (Rt : ja_R C (some .int) rm post) {z : Int} (d : decode cc pc = .ok (.ireturn, 1)) (hcs : cells ≤ rm.cells ∧ slots ≤ rm.slots) (hp : post (some (.int (ja_I z))) lay mem n) : ja_W C cells slots lay mem n pc ls [.int (ja_I z)] := by
  obtain ⟨p, l, e, R, s, m, args, below, meth, c, D, cA, B, nL, Q⟩ := C
  obtain ⟨hnl, hrm, hx, hb, hml, hown, hts, ⟨hK, hAO, hNw⟩, hlk, hB⟩ := F
  obtain ⟨hr, hQ⟩ := Rt
  subst hnl; subst hrm; subst hQ
  intro H locs lsA hH hS hl
  refine W.widen hcs.1 hcs.2 ?_
  exact W.iret hx hb hr (fun t ht hW => ⟨⟨_, lay, mem, n, rfl, hp, by rw [ht]; exact hH⟩, hS.F ht⟩) hS.2.2 d hlk
theorem r_zret (F : ja_F C own cc nl rm) {post : ja_P} (Rt : ja_R C (some .boolean) rm post) {z : Int} (hz : z = 0 ∨ z = 1) (d : decode cc pc = .ok (.ireturn, 1)) (hcs : cells ≤ rm.cells ∧ slots ≤ rm.slots) (hp : post (some (.int (ja_I z))) lay mem n) : ja_W C cells slots lay mem n pc ls [.int (ja_I z)] := by
  obtain ⟨p, l, e, R, s, m, args, below, meth, c, D, cA, B, nL, Q⟩ := C
  obtain ⟨hnl, hrm, hx, hb, hml, hown, hts, ⟨hK, hAO, hNw⟩, hlk, hB⟩ := F
  obtain ⟨hr, hQ⟩ := Rt
  subst hnl; subst hrm; subst hQ
  intro H locs lsA hH hS hl
  refine W.widen hcs.1 hcs.2 ?_
  exact W.zret hx hb hr (by rcases hz with rfl | rfl <;> decide) (fun t ht hW => ⟨⟨_, lay, mem, n, rfl, hp, by rw [ht]; exact hH⟩, hS.F ht⟩) hS.2.2 d hlk
theorem r_lret (F : ja_F C own cc nl rm) {post : ja_P} (Rt : ja_R C (some .long) rm post) {z : Int64} (d : decode cc pc = .ok (.lreturn, 1)) (hcs : cells ≤ rm.cells ∧ slots ≤ rm.slots) (hp : post (some (.long z)) lay mem n) : ja_W C cells slots lay mem n pc ls [.long z] := by
  obtain ⟨p, l, e, R, s, m, args, below, meth, c, D, cA, B, nL, Q⟩ := C
  obtain ⟨hnl, hrm, hx, hb, hml, hown, hts, ⟨hK, hAO, hNw⟩, hlk, hB⟩ := F
  obtain ⟨hr, hQ⟩ := Rt
  subst hnl; subst hrm; subst hQ
  intro H locs lsA hH hS hl
  refine W.widen hcs.1 hcs.2 ?_
  exact W.lret hx hb hr (fun t ht hW => ⟨⟨_, lay, mem, n, rfl, hp, by rw [ht]; exact hH⟩, hS.F ht⟩) hS.2.2 d hlk
end
end
