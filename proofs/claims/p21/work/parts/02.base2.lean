abbrev ja_C : Type := Program × Launch × Env × Room × State × MethodId × Array Value × List Frame × Method × Code × va_G × (Nat → ClassId) × Nat × Nat × (State → Prop)
/-- the walk, from a world (layout, memory, its end), a place, the locals and the stack -/
def ja_W (C : ja_C) (cells slots : Nat) (lay : ja_Y) (mem : ja_M) (n pc : Nat) (ls : List (Option Value)) (st : List Value) : Prop := match C with
  | (p, l, e, R, s, m, args, below, meth, c, D, cA, B, nL, Q) => ∀ (H : Heap) (locs : List Loc) (lsA : Array Slot), ja_H D cA B lay mem n H → va_S (fun q => B ≤ q) s.heap H locs → lv_has lsA nL (ja_al 0 ls) → W p l e R s m args below meth c H locs cells slots Q (F0 m pc lsA st)
def ja_F (C : ja_C) (own : String) (cc : ByteArray) (nl : Nat) (rm : Room) : Prop := match C with
  | (p, l, e, R, s, m, args, below, meth, c, D, cA, B, nL, Q) => nL = nl ∧ R = rm ∧ p.tables.exec = Jvm.exec ∧ c.code = cc ∧ c.maxLocals = nL ∧ s.vm.findClass own = some m.cls ∧ (∀ w ∈ lw_tbg, w.before args s = true) ∧ ja_K D cA s ∧ meth.locks = false ∧ B ≤ s.heap.size
section
variable {C : ja_C} {own : String} {cc : ByteArray} {nl : Nat} {rm : Room} {cells slots n : Nat} {lay : ja_Y} {mem : ja_M} {pc : Nat} {ls : List (Option Value)} {st : List Value}
theorem r_iconst (F : ja_F C own cc nl rm) {z : Int} (d : decode cc pc = .ok (.iconst z, 1)) {pc' : Nat} (hpc : pc + 1 = pc') (k : ja_W C cells slots lay mem n pc' ls (.int (ja_I z) :: st)) : ja_W C cells slots lay mem n pc ls (st) := by
  subst hpc
  obtain ⟨p, l, e, R, s, m, args, below, meth, c, D, cA, B, nL, Q⟩ := C
  obtain ⟨hnl, hrm, hx, hb, hml, hown, hts, ⟨hK, hAO, hNw⟩, hlk, hB⟩ := F
  subst hnl; subst hrm
  intro H locs lsA hH hS hl
  exact lv_iconst hx hb d rfl (k H locs lsA hH hS hl)
theorem r_bipush (F : ja_F C own cc nl rm) {z : Int} (hz : -128 ≤ z ∧ z ≤ 127) (d : decode cc pc = .ok (.bipush z, 2)) {pc' : Nat} (hpc : pc + 2 = pc') (k : ja_W C cells slots lay mem n pc' ls (.int (ja_I z) :: st)) : ja_W C cells slots lay mem n pc ls (st) := by
  subst hpc
  obtain ⟨p, l, e, R, s, m, args, below, meth, c, D, cA, B, nL, Q⟩ := C
  obtain ⟨hnl, hrm, hx, hb, hml, hown, hts, ⟨hK, hAO, hNw⟩, hlk, hB⟩ := F
  subst hnl; subst hrm
  intro H locs lsA hH hS hl
  exact lv_bipush hx hb d (ja_byte hz) (k H locs lsA hH hS hl)
theorem r_sipush (F : ja_F C own cc nl rm) {z : Int} (hz : -32768 ≤ z ∧ z ≤ 32767) (d : decode cc pc = .ok (.sipush z, 3)) {pc' : Nat} (hpc : pc + 3 = pc') (k : ja_W C cells slots lay mem n pc' ls (.int (ja_I z) :: st)) : ja_W C cells slots lay mem n pc ls (st) := by
  subst hpc
  obtain ⟨p, l, e, R, s, m, args, below, meth, c, D, cA, B, nL, Q⟩ := C
  obtain ⟨hnl, hrm, hx, hb, hml, hown, hts, ⟨hK, hAO, hNw⟩, hlk, hB⟩ := F
  subst hnl; subst hrm
  intro H locs lsA hH hS hl
  exact lv_sipush hx hb d (ja_short hz) (k H locs lsA hH hS hl)
theorem r_lconst (F : ja_F C own cc nl rm) {z : Fin 2} {v : Int64} (hv : Int64.ofNat (z : Nat) = v) (d : decode cc pc = .ok (.lconst z, 1)) {pc' : Nat} (hpc : pc + 1 = pc') (k : ja_W C cells slots lay mem n pc' ls (.long v :: st)) : ja_W C cells slots lay mem n pc ls (st) := by
  subst hpc
  obtain ⟨p, l, e, R, s, m, args, below, meth, c, D, cA, B, nL, Q⟩ := C
  obtain ⟨hnl, hrm, hx, hb, hml, hown, hts, ⟨hK, hAO, hNw⟩, hlk, hB⟩ := F
  subst hnl; subst hrm
  intro H locs lsA hH hS hl
  exact lv_lconst hx hb d hv (k H locs lsA hH hS hl)
theorem r_ldc2 (F : ja_F C own cc nl rm) {index : Nat} {v : Int64} (hw : Cond.constantLong own index v ∈ lw_tbg) (d : decode cc pc = .ok (.ldc2_w index, 3)) {pc' : Nat} (hpc : pc + 3 = pc') (k : ja_W C cells slots lay mem n pc' ls (.long v :: st)) : ja_W C cells slots lay mem n pc ls (st) := by
  subst hpc
  obtain ⟨p, l, e, R, s, m, args, below, meth, c, D, cA, B, nL, Q⟩ := C
  obtain ⟨hnl, hrm, hx, hb, hml, hown, hts, ⟨hK, hAO, hNw⟩, hlk, hB⟩ := F
  subst hnl; subst hrm
  intro H locs lsA hH hS hl
  exact lv_ldc2 hx hb hown (hts _ hw) d (k H locs lsA hH hS hl)
theorem r_iload_n (F : ja_F C own cc nl rm) {q : Fin 4} {i : Nat} {x : Int32} (hi : (q : Nat) = i) (hv : ls[i]? = some (some (.int x))) (d : decode cc pc = .ok (.iload_n q, 1)) {pc' : Nat} (hpc : pc + 1 = pc') (k : ja_W C cells slots lay mem n pc' ls (.int x :: st)) : ja_W C cells slots lay mem n pc ls (st) := by
  subst hpc
  obtain ⟨p, l, e, R, s, m, args, below, meth, c, D, cA, B, nL, Q⟩ := C
  obtain ⟨hnl, hrm, hx, hb, hml, hown, hts, ⟨hK, hAO, hNw⟩, hlk, hB⟩ := F
  subst hnl; subst hrm
  intro H locs lsA hH hS hl
  exact lv_iload_n hx hb d hi (ja_has_at hl hv) (k H locs lsA hH hS hl)
theorem r_iload (F : ja_F C own cc nl rm) {i : Nat} {x : Int32} (hv : ls[i]? = some (some (.int x))) (d : decode cc pc = .ok (.iload i, 2)) {pc' : Nat} (hpc : pc + 2 = pc') (k : ja_W C cells slots lay mem n pc' ls (.int x :: st)) : ja_W C cells slots lay mem n pc ls (st) := by
  subst hpc
  obtain ⟨p, l, e, R, s, m, args, below, meth, c, D, cA, B, nL, Q⟩ := C
  obtain ⟨hnl, hrm, hx, hb, hml, hown, hts, ⟨hK, hAO, hNw⟩, hlk, hB⟩ := F
  subst hnl; subst hrm
  intro H locs lsA hH hS hl
  exact lv_iload hx hb d (ja_has_at hl hv) (k H locs lsA hH hS hl)
theorem r_lload_n (F : ja_F C own cc nl rm) {q : Fin 4} {i : Nat} {x : Int64} (hi : (q : Nat) = i) (hv : ls[i]? = some (some (.long x))) (d : decode cc pc = .ok (.lload_n q, 1)) {pc' : Nat} (hpc : pc + 1 = pc') (k : ja_W C cells slots lay mem n pc' ls (.long x :: st)) : ja_W C cells slots lay mem n pc ls (st) := by
  subst hpc
  obtain ⟨p, l, e, R, s, m, args, below, meth, c, D, cA, B, nL, Q⟩ := C
  obtain ⟨hnl, hrm, hx, hb, hml, hown, hts, ⟨hK, hAO, hNw⟩, hlk, hB⟩ := F
  subst hnl; subst hrm
  intro H locs lsA hH hS hl
  exact lv_lload_n hx hb d hi (ja_has_at hl hv) (k H locs lsA hH hS hl)
theorem r_lload (F : ja_F C own cc nl rm) {i : Nat} {x : Int64} (hv : ls[i]? = some (some (.long x))) (d : decode cc pc = .ok (.lload i, 2)) {pc' : Nat} (hpc : pc + 2 = pc') (k : ja_W C cells slots lay mem n pc' ls (.long x :: st)) : ja_W C cells slots lay mem n pc ls (st) := by
  subst hpc
  obtain ⟨p, l, e, R, s, m, args, below, meth, c, D, cA, B, nL, Q⟩ := C
  obtain ⟨hnl, hrm, hx, hb, hml, hown, hts, ⟨hK, hAO, hNw⟩, hlk, hB⟩ := F
  subst hnl; subst hrm
  intro H locs lsA hH hS hl
  exact lv_lload hx hb d (ja_has_at hl hv) (k H locs lsA hH hS hl)
theorem r_aload_n (F : ja_F C own cc nl rm) {q : Fin 4} {i : Nat} {x : Nat} (hi : (q : Nat) = i) (hv : ls[i]? = some (some (.ref x))) (d : decode cc pc = .ok (.aload_n q, 1)) {pc' : Nat} (hpc : pc + 1 = pc') (k : ja_W C cells slots lay mem n pc' ls (.ref x :: st)) : ja_W C cells slots lay mem n pc ls (st) := by
  subst hpc
  obtain ⟨p, l, e, R, s, m, args, below, meth, c, D, cA, B, nL, Q⟩ := C
  obtain ⟨hnl, hrm, hx, hb, hml, hown, hts, ⟨hK, hAO, hNw⟩, hlk, hB⟩ := F
  subst hnl; subst hrm
  intro H locs lsA hH hS hl
  exact lv_aload_n hx hb d hi (ja_has_at hl hv) (k H locs lsA hH hS hl)
theorem r_aload (F : ja_F C own cc nl rm) {i : Nat} {x : Nat} (hv : ls[i]? = some (some (.ref x))) (d : decode cc pc = .ok (.aload i, 2)) {pc' : Nat} (hpc : pc + 2 = pc') (k : ja_W C cells slots lay mem n pc' ls (.ref x :: st)) : ja_W C cells slots lay mem n pc ls (st) := by
  subst hpc
  obtain ⟨p, l, e, R, s, m, args, below, meth, c, D, cA, B, nL, Q⟩ := C
  obtain ⟨hnl, hrm, hx, hb, hml, hown, hts, ⟨hK, hAO, hNw⟩, hlk, hB⟩ := F
  subst hnl; subst hrm
  intro H locs lsA hH hS hl
  exact lv_aload hx hb d (ja_has_at hl hv) (k H locs lsA hH hS hl)
theorem ja_nL {lsA : Array Slot} {nL : Nat} {l : List (Nat × Value)} (h : lv_has lsA nL l) : lsA.size = nL := h.1
theorem r_istore_n (F : ja_F C own cc nl rm) {q : Fin 4} {i : Nat} {x : Int32} {ls' : List (Option Value)} (hi : (q : Nat) = i) (hn : i < nl) (hp : ja_pre ls i = true) (hs : (ls.set i (some (.int x))) = ls') (d : decode cc pc = .ok (.istore_n q, 1)) {pc' : Nat} (hpc : pc + 1 = pc') (k : ja_W C cells slots lay mem n pc' ls' (st)) : ja_W C cells slots lay mem n pc ls (.int x :: st) := by
  subst hpc
  obtain ⟨p, l, e, R, s, m, args, below, meth, c, D, cA, B, nL, Q⟩ := C
  obtain ⟨hnl, hrm, hx, hb, hml, hown, hts, ⟨hK, hAO, hNw⟩, hlk, hB⟩ := F
  subst hnl; subst hrm
  intro H locs lsA hH hS hl
  subst hs
  exact lv_istore_n hx hb d hi hl hn rfl (fun ls2 h2 => k H locs ls2 hH hS (ja_has_set h2 hp))
theorem r_istore (F : ja_F C own cc nl rm) {i : Nat} {x : Int32} {ls' : List (Option Value)} (hn : i < nl) (hp : ja_pre ls i = true) (hs : (ls.set i (some (.int x))) = ls') (d : decode cc pc = .ok (.istore i, 2)) {pc' : Nat} (hpc : pc + 2 = pc') (k : ja_W C cells slots lay mem n pc' ls' (st)) : ja_W C cells slots lay mem n pc ls (.int x :: st) := by
  subst hpc
  obtain ⟨p, l, e, R, s, m, args, below, meth, c, D, cA, B, nL, Q⟩ := C
  obtain ⟨hnl, hrm, hx, hb, hml, hown, hts, ⟨hK, hAO, hNw⟩, hlk, hB⟩ := F
  subst hnl; subst hrm
  intro H locs lsA hH hS hl
  subst hs
  exact lv_istore hx hb d hl hn rfl (fun ls2 h2 => k H locs ls2 hH hS (ja_has_set h2 hp))
theorem r_astore_n (F : ja_F C own cc nl rm) {q : Fin 4} {i : Nat} {x : Nat} {ls' : List (Option Value)} (hi : (q : Nat) = i) (hn : i < nl) (hp : ja_pre ls i = true) (hs : (ls.set i (some (.ref x))) = ls') (d : decode cc pc = .ok (.astore_n q, 1)) {pc' : Nat} (hpc : pc + 1 = pc') (k : ja_W C cells slots lay mem n pc' ls' (st)) : ja_W C cells slots lay mem n pc ls (.ref x :: st) := by
  subst hpc
  obtain ⟨p, l, e, R, s, m, args, below, meth, c, D, cA, B, nL, Q⟩ := C
  obtain ⟨hnl, hrm, hx, hb, hml, hown, hts, ⟨hK, hAO, hNw⟩, hlk, hB⟩ := F
  subst hnl; subst hrm
  intro H locs lsA hH hS hl
  subst hs
  exact lv_astore_n hx hb d hi hl hn rfl (fun ls2 h2 => k H locs ls2 hH hS (ja_has_set h2 hp))
theorem r_astore (F : ja_F C own cc nl rm) {i : Nat} {x : Nat} {ls' : List (Option Value)} (hn : i < nl) (hp : ja_pre ls i = true) (hs : (ls.set i (some (.ref x))) = ls') (d : decode cc pc = .ok (.astore i, 2)) {pc' : Nat} (hpc : pc + 2 = pc') (k : ja_W C cells slots lay mem n pc' ls' (st)) : ja_W C cells slots lay mem n pc ls (.ref x :: st) := by
  subst hpc
  obtain ⟨p, l, e, R, s, m, args, below, meth, c, D, cA, B, nL, Q⟩ := C
  obtain ⟨hnl, hrm, hx, hb, hml, hown, hts, ⟨hK, hAO, hNw⟩, hlk, hB⟩ := F
  subst hnl; subst hrm
  intro H locs lsA hH hS hl
  subst hs
  exact lv_astore hx hb d hl hn rfl (fun ls2 h2 => k H locs ls2 hH hS (ja_has_set h2 hp))
theorem r_lstore_n (F : ja_F C own cc nl rm) {q : Fin 4} {i : Nat} {x : Int64} {ls' : List (Option Value)} (hi : (q : Nat) = i) (hn : i + 1 < nl) (hp : ja_pre ls i = true) (hs : ((ls.set i (some (.long x))).set (i + 1) none) = ls') (d : decode cc pc = .ok (.lstore_n q, 1)) {pc' : Nat} (hpc : pc + 1 = pc') (k : ja_W C cells slots lay mem n pc' ls' (st)) : ja_W C cells slots lay mem n pc ls (.long x :: st) := by
  subst hpc
  obtain ⟨p, l, e, R, s, m, args, below, meth, c, D, cA, B, nL, Q⟩ := C
  obtain ⟨hnl, hrm, hx, hb, hml, hown, hts, ⟨hK, hAO, hNw⟩, hlk, hB⟩ := F
  subst hnl; subst hrm
  intro H locs lsA hH hS hl
  subst hs
  exact lv_lstore_n hx hb d hi hl hn rfl (fun ls2 h2 => k H locs ls2 hH hS (ja_has_setL h2 hp))
theorem r_lstore (F : ja_F C own cc nl rm) {i : Nat} {x : Int64} {ls' : List (Option Value)} (hn : i + 1 < nl) (hp : ja_pre ls i = true) (hs : ((ls.set i (some (.long x))).set (i + 1) none) = ls') (d : decode cc pc = .ok (.lstore i, 2)) {pc' : Nat} (hpc : pc + 2 = pc') (k : ja_W C cells slots lay mem n pc' ls' (st)) : ja_W C cells slots lay mem n pc ls (.long x :: st) := by
  subst hpc
  obtain ⟨p, l, e, R, s, m, args, below, meth, c, D, cA, B, nL, Q⟩ := C
  obtain ⟨hnl, hrm, hx, hb, hml, hown, hts, ⟨hK, hAO, hNw⟩, hlk, hB⟩ := F
  subst hnl; subst hrm
  intro H locs lsA hH hS hl
  subst hs
  exact lv_lstore hx hb d hl hn rfl (fun ls2 h2 => k H locs ls2 hH hS (ja_has_setL h2 hp))
theorem r_iinc (F : ja_F C own cc nl rm) {i : Nat} {dz x : Int} {ls' : List (Option Value)} (hv : ls[i]? = some (some (.int (ja_I x)))) (hn : i < nl) (hp : ja_pre ls i = true) (hs : ls.set i (some (.int (ja_I (x + dz)))) = ls') (d : decode cc pc = .ok (.iinc i dz, 3)) {pc' : Nat} (hpc : pc + 3 = pc') (k : ja_W C cells slots lay mem n pc' ls' (st)) : ja_W C cells slots lay mem n pc ls (st) := by
  subst hpc
  obtain ⟨p, l, e, R, s, m, args, below, meth, c, D, cA, B, nL, Q⟩ := C
  obtain ⟨hnl, hrm, hx, hb, hml, hown, hts, ⟨hK, hAO, hNw⟩, hlk, hB⟩ := F
  subst hnl; subst hrm
  intro H locs lsA hH hS hl
  subst hs
  obtain ⟨q, hq⟩ := List.getElem?_of_mem ((ja_al_mem ls 0 (i, .int (ja_I x))).mpr ⟨i, by simp, hv⟩)
  exact lv_iinc (k := q) (v := ja_I (x + dz)) hx hb d hl hq (ja_add x dz) hn rfl (fun ls2 h2 => k H locs ls2 hH hS (ja_has_set h2 hp))
theorem r_iadd (F : ja_F C own cc nl rm) {a b : Int} (d : decode cc pc = .ok (.iadd, 1)) {pc' : Nat} (hpc : pc + 1 = pc') (k : ja_W C cells slots lay mem n pc' ls (.int (ja_I (a + b)) :: st)) : ja_W C cells slots lay mem n pc ls (.int (ja_I b) :: .int (ja_I a) :: st) := by
  subst hpc
  obtain ⟨p, l, e, R, s, m, args, below, meth, c, D, cA, B, nL, Q⟩ := C
  obtain ⟨hnl, hrm, hx, hb, hml, hown, hts, ⟨hK, hAO, hNw⟩, hlk, hB⟩ := F
  subst hnl; subst hrm
  intro H locs lsA hH hS hl
  exact lv_iadd hx hb d (by rw [ja_add]; exact (k H locs lsA hH hS hl))
theorem r_isub (F : ja_F C own cc nl rm) {a b : Int} (d : decode cc pc = .ok (.isub, 1)) {pc' : Nat} (hpc : pc + 1 = pc') (k : ja_W C cells slots lay mem n pc' ls (.int (ja_I (a - b)) :: st)) : ja_W C cells slots lay mem n pc ls (.int (ja_I b) :: .int (ja_I a) :: st) := by
  subst hpc
  obtain ⟨p, l, e, R, s, m, args, below, meth, c, D, cA, B, nL, Q⟩ := C
  obtain ⟨hnl, hrm, hx, hb, hml, hown, hts, ⟨hK, hAO, hNw⟩, hlk, hB⟩ := F
  subst hnl; subst hrm
  intro H locs lsA hH hS hl
  exact lv_isub hx hb d (by rw [ja_sub]; exact (k H locs lsA hH hS hl))
theorem r_imul (F : ja_F C own cc nl rm) {a b : Int} (d : decode cc pc = .ok (.imul, 1)) {pc' : Nat} (hpc : pc + 1 = pc') (k : ja_W C cells slots lay mem n pc' ls (.int (ja_I (a * b)) :: st)) : ja_W C cells slots lay mem n pc ls (.int (ja_I b) :: .int (ja_I a) :: st) := by
  subst hpc
  obtain ⟨p, l, e, R, s, m, args, below, meth, c, D, cA, B, nL, Q⟩ := C
  obtain ⟨hnl, hrm, hx, hb, hml, hown, hts, ⟨hK, hAO, hNw⟩, hlk, hB⟩ := F
  subst hnl; subst hrm
  intro H locs lsA hH hS hl
  exact lv_imul hx hb d (by rw [ja_mul]; exact (k H locs lsA hH hS hl))
theorem r_idiv (F : ja_F C own cc nl rm) {a b : Int} (ha : ja_in a) (hbi : ja_in b) (h0 : 0 < b) (d : decode cc pc = .ok (.idiv, 1)) {pc' : Nat} (hpc : pc + 1 = pc') (k : ja_W C cells slots lay mem n pc' ls (.int (ja_I (a.tdiv b)) :: st)) : ja_W C cells slots lay mem n pc ls (.int (ja_I b) :: .int (ja_I a) :: st) := by
  subst hpc
  obtain ⟨p, l, e, R, s, m, args, below, meth, c, D, cA, B, nL, Q⟩ := C
  obtain ⟨hnl, hrm, hx, hb, hml, hown, hts, ⟨hK, hAO, hNw⟩, hlk, hB⟩ := F
  subst hnl; subst hrm
  intro H locs lsA hH hS hl
  exact lv_idiv hx hb d (ja_ne0 hbi (by omega)) (by rw [ja_div ha hbi h0]; exact (k H locs lsA hH hS hl))
theorem r_irem (F : ja_F C own cc nl rm) {a b : Int} (ha : ja_in a) (hbi : ja_in b) (h0 : 0 < b) (d : decode cc pc = .ok (.irem, 1)) {pc' : Nat} (hpc : pc + 1 = pc') (k : ja_W C cells slots lay mem n pc' ls (.int (ja_I (a.tmod b)) :: st)) : ja_W C cells slots lay mem n pc ls (.int (ja_I b) :: .int (ja_I a) :: st) := by
  subst hpc
  obtain ⟨p, l, e, R, s, m, args, below, meth, c, D, cA, B, nL, Q⟩ := C
  obtain ⟨hnl, hrm, hx, hb, hml, hown, hts, ⟨hK, hAO, hNw⟩, hlk, hB⟩ := F
  subst hnl; subst hrm
  intro H locs lsA hH hS hl
  exact lv_irem hx hb d (ja_ne0 hbi (by omega)) (by rw [ja_rem ha hbi h0]; exact (k H locs lsA hH hS hl))
theorem r_idivP (F : ja_F C own cc nl rm) {a b : Int} (ha : ja_in a) (hbi : ja_in b) (h0 : 0 < b) (ha0 : 0 ≤ a) (d : decode cc pc = .ok (.idiv, 1)) {pc' : Nat} (hpc : pc + 1 = pc') (k : ja_W C cells slots lay mem n pc' ls (.int (ja_I (a / b)) :: st)) : ja_W C cells slots lay mem n pc ls (.int (ja_I b) :: .int (ja_I a) :: st) := by
  subst hpc
  obtain ⟨p, l, e, R, s, m, args, below, meth, c, D, cA, B, nL, Q⟩ := C
  obtain ⟨hnl, hrm, hx, hb, hml, hown, hts, ⟨hK, hAO, hNw⟩, hlk, hB⟩ := F
  subst hnl; subst hrm
  intro H locs lsA hH hS hl
  exact lv_idiv hx hb d (ja_ne0 hbi (by omega)) (by rw [ja_div ha hbi h0, Int.tdiv_eq_ediv_of_nonneg ha0]; exact (k H locs lsA hH hS hl))
theorem r_iremP (F : ja_F C own cc nl rm) {a b : Int} (ha : ja_in a) (hbi : ja_in b) (h0 : 0 < b) (ha0 : 0 ≤ a) (d : decode cc pc = .ok (.irem, 1)) {pc' : Nat} (hpc : pc + 1 = pc') (k : ja_W C cells slots lay mem n pc' ls (.int (ja_I (a % b)) :: st)) : ja_W C cells slots lay mem n pc ls (.int (ja_I b) :: .int (ja_I a) :: st) := by
  subst hpc
  obtain ⟨p, l, e, R, s, m, args, below, meth, c, D, cA, B, nL, Q⟩ := C
  obtain ⟨hnl, hrm, hx, hb, hml, hown, hts, ⟨hK, hAO, hNw⟩, hlk, hB⟩ := F
  subst hnl; subst hrm
  intro H locs lsA hH hS hl
  exact lv_irem hx hb d (ja_ne0 hbi (by omega)) (by rw [ja_rem ha hbi h0, Int.tmod_eq_emod_of_nonneg ha0]; exact (k H locs lsA hH hS hl))
theorem r_ineg (F : ja_F C own cc nl rm) {a : Int} (d : decode cc pc = .ok (.ineg, 1)) {pc' : Nat} (hpc : pc + 1 = pc') (k : ja_W C cells slots lay mem n pc' ls (.int (ja_I (-a)) :: st)) : ja_W C cells slots lay mem n pc ls (.int (ja_I a) :: st) := by
  subst hpc
  obtain ⟨p, l, e, R, s, m, args, below, meth, c, D, cA, B, nL, Q⟩ := C
  obtain ⟨hnl, hrm, hx, hb, hml, hown, hts, ⟨hK, hAO, hNw⟩, hlk, hB⟩ := F
  subst hnl; subst hrm
  intro H locs lsA hH hS hl
  exact lv_ineg hx hb d (by rw [ja_neg]; exact (k H locs lsA hH hS hl))
theorem r_iand (F : ja_F C own cc nl rm) {a b : Int32} {z : Int} (hz : a &&& b = ja_I z) (d : decode cc pc = .ok (.iand, 1)) {pc' : Nat} (hpc : pc + 1 = pc') (k : ja_W C cells slots lay mem n pc' ls (.int (ja_I z) :: st)) : ja_W C cells slots lay mem n pc ls (.int b :: .int a :: st) := by
  subst hpc
  obtain ⟨p, l, e, R, s, m, args, below, meth, c, D, cA, B, nL, Q⟩ := C
  obtain ⟨hnl, hrm, hx, hb, hml, hown, hts, ⟨hK, hAO, hNw⟩, hlk, hB⟩ := F
  subst hnl; subst hrm
  intro H locs lsA hH hS hl
  exact lv_iand hx hb d (by rw [hz]; exact (k H locs lsA hH hS hl))
theorem r_ior (F : ja_F C own cc nl rm) {a b : Int32} {z : Int} (hz : a ||| b = ja_I z) (d : decode cc pc = .ok (.ior, 1)) {pc' : Nat} (hpc : pc + 1 = pc') (k : ja_W C cells slots lay mem n pc' ls (.int (ja_I z) :: st)) : ja_W C cells slots lay mem n pc ls (.int b :: .int a :: st) := by
  subst hpc
  obtain ⟨p, l, e, R, s, m, args, below, meth, c, D, cA, B, nL, Q⟩ := C
  obtain ⟨hnl, hrm, hx, hb, hml, hown, hts, ⟨hK, hAO, hNw⟩, hlk, hB⟩ := F
  subst hnl; subst hrm
  intro H locs lsA hH hS hl
  exact lv_ior hx hb d (by rw [hz]; exact (k H locs lsA hH hS hl))
theorem r_ixor (F : ja_F C own cc nl rm) {a b : Int32} {z : Int} (hz : a ^^^ b = ja_I z) (d : decode cc pc = .ok (.ixor, 1)) {pc' : Nat} (hpc : pc + 1 = pc') (k : ja_W C cells slots lay mem n pc' ls (.int (ja_I z) :: st)) : ja_W C cells slots lay mem n pc ls (.int b :: .int a :: st) := by
  subst hpc
  obtain ⟨p, l, e, R, s, m, args, below, meth, c, D, cA, B, nL, Q⟩ := C
  obtain ⟨hnl, hrm, hx, hb, hml, hown, hts, ⟨hK, hAO, hNw⟩, hlk, hB⟩ := F
  subst hnl; subst hrm
  intro H locs lsA hH hS hl
  exact lv_ixor hx hb d (by rw [hz]; exact (k H locs lsA hH hS hl))
theorem r_ishl (F : ja_F C own cc nl rm) {a b : Int32} {z : Int} (hz : a <<< (b &&& 31) = ja_I z) (d : decode cc pc = .ok (.ishl, 1)) {pc' : Nat} (hpc : pc + 1 = pc') (k : ja_W C cells slots lay mem n pc' ls (.int (ja_I z) :: st)) : ja_W C cells slots lay mem n pc ls (.int b :: .int a :: st) := by
  subst hpc
  obtain ⟨p, l, e, R, s, m, args, below, meth, c, D, cA, B, nL, Q⟩ := C
  obtain ⟨hnl, hrm, hx, hb, hml, hown, hts, ⟨hK, hAO, hNw⟩, hlk, hB⟩ := F
  subst hnl; subst hrm
  intro H locs lsA hH hS hl
  exact lv_ishl hx hb d (by rw [hz]; exact (k H locs lsA hH hS hl))
theorem r_ladd (F : ja_F C own cc nl rm) {a b : Int64} (d : decode cc pc = .ok (.ladd, 1)) {pc' : Nat} (hpc : pc + 1 = pc') (k : ja_W C cells slots lay mem n pc' ls (.long (a + b) :: st)) : ja_W C cells slots lay mem n pc ls (.long b :: .long a :: st) := by
  subst hpc
  obtain ⟨p, l, e, R, s, m, args, below, meth, c, D, cA, B, nL, Q⟩ := C
  obtain ⟨hnl, hrm, hx, hb, hml, hown, hts, ⟨hK, hAO, hNw⟩, hlk, hB⟩ := F
  subst hnl; subst hrm
  intro H locs lsA hH hS hl
  exact lv_ladd hx hb d (k H locs lsA hH hS hl)
theorem r_lsub (F : ja_F C own cc nl rm) {a b : Int64} (d : decode cc pc = .ok (.lsub, 1)) {pc' : Nat} (hpc : pc + 1 = pc') (k : ja_W C cells slots lay mem n pc' ls (.long (a - b) :: st)) : ja_W C cells slots lay mem n pc ls (.long b :: .long a :: st) := by
  subst hpc
  obtain ⟨p, l, e, R, s, m, args, below, meth, c, D, cA, B, nL, Q⟩ := C
  obtain ⟨hnl, hrm, hx, hb, hml, hown, hts, ⟨hK, hAO, hNw⟩, hlk, hB⟩ := F
  subst hnl; subst hrm
  intro H locs lsA hH hS hl
  exact lv_lsub hx hb d (k H locs lsA hH hS hl)
theorem r_lmul (F : ja_F C own cc nl rm) {a b : Int64} (d : decode cc pc = .ok (.lmul, 1)) {pc' : Nat} (hpc : pc + 1 = pc') (k : ja_W C cells slots lay mem n pc' ls (.long (a * b) :: st)) : ja_W C cells slots lay mem n pc ls (.long b :: .long a :: st) := by
  subst hpc
  obtain ⟨p, l, e, R, s, m, args, below, meth, c, D, cA, B, nL, Q⟩ := C
  obtain ⟨hnl, hrm, hx, hb, hml, hown, hts, ⟨hK, hAO, hNw⟩, hlk, hB⟩ := F
  subst hnl; subst hrm
  intro H locs lsA hH hS hl
  exact lv_lmul hx hb d (k H locs lsA hH hS hl)
theorem r_land (F : ja_F C own cc nl rm) {a b : Int64} (d : decode cc pc = .ok (.land, 1)) {pc' : Nat} (hpc : pc + 1 = pc') (k : ja_W C cells slots lay mem n pc' ls (.long (a &&& b) :: st)) : ja_W C cells slots lay mem n pc ls (.long b :: .long a :: st) := by
  subst hpc
  obtain ⟨p, l, e, R, s, m, args, below, meth, c, D, cA, B, nL, Q⟩ := C
  obtain ⟨hnl, hrm, hx, hb, hml, hown, hts, ⟨hK, hAO, hNw⟩, hlk, hB⟩ := F
  subst hnl; subst hrm
  intro H locs lsA hH hS hl
  exact lv_land hx hb d (k H locs lsA hH hS hl)
theorem r_lor (F : ja_F C own cc nl rm) {a b : Int64} (d : decode cc pc = .ok (.lor, 1)) {pc' : Nat} (hpc : pc + 1 = pc') (k : ja_W C cells slots lay mem n pc' ls (.long (a ||| b) :: st)) : ja_W C cells slots lay mem n pc ls (.long b :: .long a :: st) := by
  subst hpc
  obtain ⟨p, l, e, R, s, m, args, below, meth, c, D, cA, B, nL, Q⟩ := C
  obtain ⟨hnl, hrm, hx, hb, hml, hown, hts, ⟨hK, hAO, hNw⟩, hlk, hB⟩ := F
  subst hnl; subst hrm
  intro H locs lsA hH hS hl
  exact lv_lor hx hb d (k H locs lsA hH hS hl)
theorem r_lxor (F : ja_F C own cc nl rm) {a b : Int64} (d : decode cc pc = .ok (.lxor, 1)) {pc' : Nat} (hpc : pc + 1 = pc') (k : ja_W C cells slots lay mem n pc' ls (.long (a ^^^ b) :: st)) : ja_W C cells slots lay mem n pc ls (.long b :: .long a :: st) := by
  subst hpc
  obtain ⟨p, l, e, R, s, m, args, below, meth, c, D, cA, B, nL, Q⟩ := C
  obtain ⟨hnl, hrm, hx, hb, hml, hown, hts, ⟨hK, hAO, hNw⟩, hlk, hB⟩ := F
  subst hnl; subst hrm
  intro H locs lsA hH hS hl
  exact lv_lxor hx hb d (k H locs lsA hH hS hl)
theorem r_lshl (F : ja_F C own cc nl rm) {a : Int64} {b : Int32} (d : decode cc pc = .ok (.lshl, 1)) {pc' : Nat} (hpc : pc + 1 = pc') (k : ja_W C cells slots lay mem n pc' ls (.long (a <<< (b.toInt64 &&& 63)) :: st)) : ja_W C cells slots lay mem n pc ls (.int b :: .long a :: st) := by
  subst hpc
  obtain ⟨p, l, e, R, s, m, args, below, meth, c, D, cA, B, nL, Q⟩ := C
  obtain ⟨hnl, hrm, hx, hb, hml, hown, hts, ⟨hK, hAO, hNw⟩, hlk, hB⟩ := F
  subst hnl; subst hrm
  intro H locs lsA hH hS hl
  exact lv_lshl hx hb d rfl (k H locs lsA hH hS hl)
theorem r_lshr (F : ja_F C own cc nl rm) {a : Int64} {b : Int32} (d : decode cc pc = .ok (.lshr, 1)) {pc' : Nat} (hpc : pc + 1 = pc') (k : ja_W C cells slots lay mem n pc' ls (.long (a >>> (b.toInt64 &&& 63)) :: st)) : ja_W C cells slots lay mem n pc ls (.int b :: .long a :: st) := by
  subst hpc
  obtain ⟨p, l, e, R, s, m, args, below, meth, c, D, cA, B, nL, Q⟩ := C
  obtain ⟨hnl, hrm, hx, hb, hml, hown, hts, ⟨hK, hAO, hNw⟩, hlk, hB⟩ := F
  subst hnl; subst hrm
  intro H locs lsA hH hS hl
  exact lv_lshr hx hb d rfl (k H locs lsA hH hS hl)
theorem r_lushr (F : ja_F C own cc nl rm) {a : Int64} {b : Int32} (d : decode cc pc = .ok (.lushr, 1)) {pc' : Nat} (hpc : pc + 1 = pc') (k : ja_W C cells slots lay mem n pc' ls (.long ((a.toUInt64 >>> (b.toInt64.toUInt64 &&& Int64.toUInt64 63)).toInt64) :: st)) : ja_W C cells slots lay mem n pc ls (.int b :: .long a :: st) := by
  subst hpc
  obtain ⟨p, l, e, R, s, m, args, below, meth, c, D, cA, B, nL, Q⟩ := C
  obtain ⟨hnl, hrm, hx, hb, hml, hown, hts, ⟨hK, hAO, hNw⟩, hlk, hB⟩ := F
  subst hnl; subst hrm
  intro H locs lsA hH hS hl
  exact lv_lushr hx hb d rfl (k H locs lsA hH hS hl)
theorem r_i2l (F : ja_F C own cc nl rm) {a : Int32} (d : decode cc pc = .ok (.i2l, 1)) {pc' : Nat} (hpc : pc + 1 = pc') (k : ja_W C cells slots lay mem n pc' ls (.long a.toInt64 :: st)) : ja_W C cells slots lay mem n pc ls (.int a :: st) := by
  subst hpc
  obtain ⟨p, l, e, R, s, m, args, below, meth, c, D, cA, B, nL, Q⟩ := C
  obtain ⟨hnl, hrm, hx, hb, hml, hown, hts, ⟨hK, hAO, hNw⟩, hlk, hB⟩ := F
  subst hnl; subst hrm
  intro H locs lsA hH hS hl
  exact lv_i2l hx hb d rfl (k H locs lsA hH hS hl)
theorem r_l2i (F : ja_F C own cc nl rm) {a : Int64} (d : decode cc pc = .ok (.l2i, 1)) {pc' : Nat} (hpc : pc + 1 = pc') (k : ja_W C cells slots lay mem n pc' ls (.int a.toInt32 :: st)) : ja_W C cells slots lay mem n pc ls (.long a :: st) := by
  subst hpc
  obtain ⟨p, l, e, R, s, m, args, below, meth, c, D, cA, B, nL, Q⟩ := C
  obtain ⟨hnl, hrm, hx, hb, hml, hown, hts, ⟨hK, hAO, hNw⟩, hlk, hB⟩ := F
  subst hnl; subst hrm
  intro H locs lsA hH hS hl
  exact lv_l2i hx hb d rfl (k H locs lsA hH hS hl)
theorem r_lcmp (F : ja_F C own cc nl rm) {a b : Int64} (d : decode cc pc = .ok (.lcmp, 1)) {pc' : Nat} (hpc : pc + 1 = pc') (k : ja_W C cells slots lay mem n pc' ls (.int (lg_cmp a b) :: st)) : ja_W C cells slots lay mem n pc ls (.long b :: .long a :: st) := by
  subst hpc
  obtain ⟨p, l, e, R, s, m, args, below, meth, c, D, cA, B, nL, Q⟩ := C
  obtain ⟨hnl, hrm, hx, hb, hml, hown, hts, ⟨hK, hAO, hNw⟩, hlk, hB⟩ := F
  subst hnl; subst hrm
  intro H locs lsA hH hS hl
  exact W.lcmp hx hb d (k H locs lsA hH hS hl)
theorem r_dup (F : ja_F C own cc nl rm) {v : Value} (hc : v.category = 1) (d : decode cc pc = .ok (.dup, 1)) {pc' : Nat} (hpc : pc + 1 = pc') (k : ja_W C cells slots lay mem n pc' ls (v :: v :: st)) : ja_W C cells slots lay mem n pc ls (v :: st) := by
  subst hpc
  obtain ⟨p, l, e, R, s, m, args, below, meth, c, D, cA, B, nL, Q⟩ := C
  obtain ⟨hnl, hrm, hx, hb, hml, hown, hts, ⟨hK, hAO, hNw⟩, hlk, hB⟩ := F
  subst hnl; subst hrm
  intro H locs lsA hH hS hl
  exact lv_dup hx hb d hc (k H locs lsA hH hS hl)
theorem r_dup2 (F : ja_F C own cc nl rm) {u v : Value} (hu : u.category = 1) (hc : v.category = 1) (d : decode cc pc = .ok (.dup2, 1)) {pc' : Nat} (hpc : pc + 1 = pc') (k : ja_W C cells slots lay mem n pc' ls (u :: v :: u :: v :: st)) : ja_W C cells slots lay mem n pc ls (u :: v :: st) := by
  subst hpc
  obtain ⟨p, l, e, R, s, m, args, below, meth, c, D, cA, B, nL, Q⟩ := C
  obtain ⟨hnl, hrm, hx, hb, hml, hown, hts, ⟨hK, hAO, hNw⟩, hlk, hB⟩ := F
  subst hnl; subst hrm
  intro H locs lsA hH hS hl
  exact lv_dup2_11 hx hb d hu hc (k H locs lsA hH hS hl)
theorem r_dup2L (F : ja_F C own cc nl rm) {v : Value} (hc : v.category = 2) (d : decode cc pc = .ok (.dup2, 1)) {pc' : Nat} (hpc : pc + 1 = pc') (k : ja_W C cells slots lay mem n pc' ls (v :: v :: st)) : ja_W C cells slots lay mem n pc ls (v :: st) := by
  subst hpc
  obtain ⟨p, l, e, R, s, m, args, below, meth, c, D, cA, B, nL, Q⟩ := C
  obtain ⟨hnl, hrm, hx, hb, hml, hown, hts, ⟨hK, hAO, hNw⟩, hlk, hB⟩ := F
  subst hnl; subst hrm
  intro H locs lsA hH hS hl
  exact lv_dup2_2 hx hb d hc (k H locs lsA hH hS hl)
theorem r_pop (F : ja_F C own cc nl rm) {v : Value} (hc : v.category = 1) (d : decode cc pc = .ok (.pop, 1)) {pc' : Nat} (hpc : pc + 1 = pc') (k : ja_W C cells slots lay mem n pc' ls (st)) : ja_W C cells slots lay mem n pc ls (v :: st) := by
  subst hpc
  obtain ⟨p, l, e, R, s, m, args, below, meth, c, D, cA, B, nL, Q⟩ := C
  obtain ⟨hnl, hrm, hx, hb, hml, hown, hts, ⟨hK, hAO, hNw⟩, hlk, hB⟩ := F
  subst hnl; subst hrm
  intro H locs lsA hH hS hl
  exact lv_pop hx hb d hc (k H locs lsA hH hS hl)
theorem r_eqi {x : Int32} {z : Int} (h : x = ja_I z) (k : ja_W C cells slots lay mem n pc ls (.int (ja_I z) :: st)) : ja_W C cells slots lay mem n pc ls (.int x :: st) := by rw [h]; exact k
theorem r_eql {x y : Int64} (h : x = y) (k : ja_W C cells slots lay mem n pc ls (.long y :: st)) : ja_W C cells slots lay mem n pc ls (.long x :: st) := by rw [h]; exact k
theorem r_eqz {x z : Int} (h : x = z) (k : ja_W C cells slots lay mem n pc ls (.int (ja_I z) :: st)) : ja_W C cells slots lay mem n pc ls (.int (ja_I x) :: st) := by rw [h]; exact k
theorem r_pc {pc' : Nat} (h : pc = pc') (k : ja_W C cells slots lay mem n pc' ls st) : ja_W C cells slots lay mem n pc ls st := h ▸ k
theorem r_mem {mem' : ja_M} (h : mem = mem') (k : ja_W C cells slots lay mem' n pc ls st) : ja_W C cells slots lay mem n pc ls st := h ▸ k
theorem r_icmp_eq (F : ja_F C own cc nl rm) {a b : Int} (ha1 : ja_in a) (hb1 : ja_in b) {off : Int} {tgt : Nat} (d : decode cc pc = .ok (.if_icmp .eq off, 3)) {pc' : Nat} (hpc : pc + 3 = pc') (ht : (pc : Int) + off = (tgt : Int)) (kt : a = b → ja_W C cells slots lay mem n tgt ls st) (kf : ¬ (a = b) → ja_W C cells slots lay mem n pc' ls st) : ja_W C cells slots lay mem n pc ls (.int (ja_I b) :: .int (ja_I a) :: st) := by
  subst hpc
  obtain ⟨p, l, e, R, s, m, args, below, meth, c, D, cA, B, nL, Q⟩ := C
  obtain ⟨hnl, hrm, hx, hb, hml, hown, hts, ⟨hK, hAO, hNw⟩, hlk, hB⟩ := F
  subst hnl; subst hrm
  intro H locs lsA hH hS hl
  exact lv_icmp_eq hx hb d ht (fun h => kt ((ja_eq ha1 hb1).mp h) H locs lsA hH hS hl) (fun h => kf (fun q => h ((ja_eq ha1 hb1).mpr q)) H locs lsA hH hS hl)
theorem r_if_eq (F : ja_F C own cc nl rm) {a : Int} (ha1 : ja_in a) {off : Int} {tgt : Nat} (d : decode cc pc = .ok (.ifCond .eq off, 3)) {pc' : Nat} (hpc : pc + 3 = pc') (ht : (pc : Int) + off = (tgt : Int)) (kt : a = 0 → ja_W C cells slots lay mem n tgt ls st) (kf : ¬ (a = 0) → ja_W C cells slots lay mem n pc' ls st) : ja_W C cells slots lay mem n pc ls (.int (ja_I a) :: st) := by
  subst hpc
  obtain ⟨p, l, e, R, s, m, args, below, meth, c, D, cA, B, nL, Q⟩ := C
  obtain ⟨hnl, hrm, hx, hb, hml, hown, hts, ⟨hK, hAO, hNw⟩, hlk, hB⟩ := F
  subst hnl; subst hrm
  intro H locs lsA hH hS hl
  exact lv_if_eq hx hb d ht (fun h => kt ((ja_eq ha1 ja_in0).mp h) H locs lsA hH hS hl) (fun h => kf (fun q => h ((ja_eq ha1 ja_in0).mpr q)) H locs lsA hH hS hl)
theorem r_icmp_ne (F : ja_F C own cc nl rm) {a b : Int} (ha1 : ja_in a) (hb1 : ja_in b) {off : Int} {tgt : Nat} (d : decode cc pc = .ok (.if_icmp .ne off, 3)) {pc' : Nat} (hpc : pc + 3 = pc') (ht : (pc : Int) + off = (tgt : Int)) (kt : ¬ a = b → ja_W C cells slots lay mem n tgt ls st) (kf : a = b → ja_W C cells slots lay mem n pc' ls st) : ja_W C cells slots lay mem n pc ls (.int (ja_I b) :: .int (ja_I a) :: st) := by
  subst hpc
  obtain ⟨p, l, e, R, s, m, args, below, meth, c, D, cA, B, nL, Q⟩ := C
  obtain ⟨hnl, hrm, hx, hb, hml, hown, hts, ⟨hK, hAO, hNw⟩, hlk, hB⟩ := F
  subst hnl; subst hrm
  intro H locs lsA hH hS hl
  exact lv_icmp_ne hx hb d ht (fun h => kt (fun q => h ((ja_eq ha1 hb1).mpr q)) H locs lsA hH hS hl) (fun h => kf ((ja_eq ha1 hb1).mp h) H locs lsA hH hS hl)
theorem r_if_ne (F : ja_F C own cc nl rm) {a : Int} (ha1 : ja_in a) {off : Int} {tgt : Nat} (d : decode cc pc = .ok (.ifCond .ne off, 3)) {pc' : Nat} (hpc : pc + 3 = pc') (ht : (pc : Int) + off = (tgt : Int)) (kt : ¬ a = 0 → ja_W C cells slots lay mem n tgt ls st) (kf : a = 0 → ja_W C cells slots lay mem n pc' ls st) : ja_W C cells slots lay mem n pc ls (.int (ja_I a) :: st) := by
  subst hpc
  obtain ⟨p, l, e, R, s, m, args, below, meth, c, D, cA, B, nL, Q⟩ := C
  obtain ⟨hnl, hrm, hx, hb, hml, hown, hts, ⟨hK, hAO, hNw⟩, hlk, hB⟩ := F
  subst hnl; subst hrm
  intro H locs lsA hH hS hl
  exact lv_if_ne hx hb d ht (fun h => kt (fun q => h ((ja_eq ha1 ja_in0).mpr q)) H locs lsA hH hS hl) (fun h => kf ((ja_eq ha1 ja_in0).mp h) H locs lsA hH hS hl)
theorem r_icmp_lt (F : ja_F C own cc nl rm) {a b : Int} (ha1 : ja_in a) (hb1 : ja_in b) {off : Int} {tgt : Nat} (d : decode cc pc = .ok (.if_icmp .lt off, 3)) {pc' : Nat} (hpc : pc + 3 = pc') (ht : (pc : Int) + off = (tgt : Int)) (kt : a < b → ja_W C cells slots lay mem n tgt ls st) (kf : ¬ (a < b) → ja_W C cells slots lay mem n pc' ls st) : ja_W C cells slots lay mem n pc ls (.int (ja_I b) :: .int (ja_I a) :: st) := by
  subst hpc
  obtain ⟨p, l, e, R, s, m, args, below, meth, c, D, cA, B, nL, Q⟩ := C
  obtain ⟨hnl, hrm, hx, hb, hml, hown, hts, ⟨hK, hAO, hNw⟩, hlk, hB⟩ := F
  subst hnl; subst hrm
  intro H locs lsA hH hS hl
  exact lv_icmp_lt hx hb d ht (fun h => kt ((ja_lt ha1 hb1).mp h) H locs lsA hH hS hl) (fun h => kf (fun q => h ((ja_lt ha1 hb1).mpr q)) H locs lsA hH hS hl)
theorem r_if_lt (F : ja_F C own cc nl rm) {a : Int} (ha1 : ja_in a) {off : Int} {tgt : Nat} (d : decode cc pc = .ok (.ifCond .lt off, 3)) {pc' : Nat} (hpc : pc + 3 = pc') (ht : (pc : Int) + off = (tgt : Int)) (kt : a < 0 → ja_W C cells slots lay mem n tgt ls st) (kf : ¬ (a < 0) → ja_W C cells slots lay mem n pc' ls st) : ja_W C cells slots lay mem n pc ls (.int (ja_I a) :: st) := by
  subst hpc
  obtain ⟨p, l, e, R, s, m, args, below, meth, c, D, cA, B, nL, Q⟩ := C
  obtain ⟨hnl, hrm, hx, hb, hml, hown, hts, ⟨hK, hAO, hNw⟩, hlk, hB⟩ := F
  subst hnl; subst hrm
  intro H locs lsA hH hS hl
  exact lv_if_lt hx hb d ht (fun h => kt ((ja_lt ha1 ja_in0).mp h) H locs lsA hH hS hl) (fun h => kf (fun q => h ((ja_lt ha1 ja_in0).mpr q)) H locs lsA hH hS hl)
theorem r_icmp_ge (F : ja_F C own cc nl rm) {a b : Int} (ha1 : ja_in a) (hb1 : ja_in b) {off : Int} {tgt : Nat} (d : decode cc pc = .ok (.if_icmp .ge off, 3)) {pc' : Nat} (hpc : pc + 3 = pc') (ht : (pc : Int) + off = (tgt : Int)) (kt : b ≤ a → ja_W C cells slots lay mem n tgt ls st) (kf : ¬ (b ≤ a) → ja_W C cells slots lay mem n pc' ls st) : ja_W C cells slots lay mem n pc ls (.int (ja_I b) :: .int (ja_I a) :: st) := by
  subst hpc
  obtain ⟨p, l, e, R, s, m, args, below, meth, c, D, cA, B, nL, Q⟩ := C
  obtain ⟨hnl, hrm, hx, hb, hml, hown, hts, ⟨hK, hAO, hNw⟩, hlk, hB⟩ := F
  subst hnl; subst hrm
  intro H locs lsA hH hS hl
  exact lv_icmp_ge hx hb d ht (fun h => kt ((ja_le hb1 ha1).mp h) H locs lsA hH hS hl) (fun h => kf (fun q => h ((ja_le hb1 ha1).mpr q)) H locs lsA hH hS hl)
theorem r_if_ge (F : ja_F C own cc nl rm) {a : Int} (ha1 : ja_in a) {off : Int} {tgt : Nat} (d : decode cc pc = .ok (.ifCond .ge off, 3)) {pc' : Nat} (hpc : pc + 3 = pc') (ht : (pc : Int) + off = (tgt : Int)) (kt : 0 ≤ a → ja_W C cells slots lay mem n tgt ls st) (kf : ¬ (0 ≤ a) → ja_W C cells slots lay mem n pc' ls st) : ja_W C cells slots lay mem n pc ls (.int (ja_I a) :: st) := by
  subst hpc
  obtain ⟨p, l, e, R, s, m, args, below, meth, c, D, cA, B, nL, Q⟩ := C
  obtain ⟨hnl, hrm, hx, hb, hml, hown, hts, ⟨hK, hAO, hNw⟩, hlk, hB⟩ := F
  subst hnl; subst hrm
  intro H locs lsA hH hS hl
  exact lv_if_ge hx hb d ht (fun h => kt ((ja_le ja_in0 ha1).mp h) H locs lsA hH hS hl) (fun h => kf (fun q => h ((ja_le ja_in0 ha1).mpr q)) H locs lsA hH hS hl)
theorem r_icmp_gt (F : ja_F C own cc nl rm) {a b : Int} (ha1 : ja_in a) (hb1 : ja_in b) {off : Int} {tgt : Nat} (d : decode cc pc = .ok (.if_icmp .gt off, 3)) {pc' : Nat} (hpc : pc + 3 = pc') (ht : (pc : Int) + off = (tgt : Int)) (kt : b < a → ja_W C cells slots lay mem n tgt ls st) (kf : ¬ (b < a) → ja_W C cells slots lay mem n pc' ls st) : ja_W C cells slots lay mem n pc ls (.int (ja_I b) :: .int (ja_I a) :: st) := by
  subst hpc
  obtain ⟨p, l, e, R, s, m, args, below, meth, c, D, cA, B, nL, Q⟩ := C
  obtain ⟨hnl, hrm, hx, hb, hml, hown, hts, ⟨hK, hAO, hNw⟩, hlk, hB⟩ := F
  subst hnl; subst hrm
  intro H locs lsA hH hS hl
  exact lv_icmp_gt hx hb d ht (fun h => kt ((ja_lt hb1 ha1).mp h) H locs lsA hH hS hl) (fun h => kf (fun q => h ((ja_lt hb1 ha1).mpr q)) H locs lsA hH hS hl)
theorem r_if_gt (F : ja_F C own cc nl rm) {a : Int} (ha1 : ja_in a) {off : Int} {tgt : Nat} (d : decode cc pc = .ok (.ifCond .gt off, 3)) {pc' : Nat} (hpc : pc + 3 = pc') (ht : (pc : Int) + off = (tgt : Int)) (kt : 0 < a → ja_W C cells slots lay mem n tgt ls st) (kf : ¬ (0 < a) → ja_W C cells slots lay mem n pc' ls st) : ja_W C cells slots lay mem n pc ls (.int (ja_I a) :: st) := by
  subst hpc
  obtain ⟨p, l, e, R, s, m, args, below, meth, c, D, cA, B, nL, Q⟩ := C
  obtain ⟨hnl, hrm, hx, hb, hml, hown, hts, ⟨hK, hAO, hNw⟩, hlk, hB⟩ := F
  subst hnl; subst hrm
  intro H locs lsA hH hS hl
  exact lv_if_gt hx hb d ht (fun h => kt ((ja_lt ja_in0 ha1).mp h) H locs lsA hH hS hl) (fun h => kf (fun q => h ((ja_lt ja_in0 ha1).mpr q)) H locs lsA hH hS hl)
theorem r_icmp_le (F : ja_F C own cc nl rm) {a b : Int} (ha1 : ja_in a) (hb1 : ja_in b) {off : Int} {tgt : Nat} (d : decode cc pc = .ok (.if_icmp .le off, 3)) {pc' : Nat} (hpc : pc + 3 = pc') (ht : (pc : Int) + off = (tgt : Int)) (kt : a ≤ b → ja_W C cells slots lay mem n tgt ls st) (kf : ¬ (a ≤ b) → ja_W C cells slots lay mem n pc' ls st) : ja_W C cells slots lay mem n pc ls (.int (ja_I b) :: .int (ja_I a) :: st) := by
  subst hpc
  obtain ⟨p, l, e, R, s, m, args, below, meth, c, D, cA, B, nL, Q⟩ := C
  obtain ⟨hnl, hrm, hx, hb, hml, hown, hts, ⟨hK, hAO, hNw⟩, hlk, hB⟩ := F
  subst hnl; subst hrm
  intro H locs lsA hH hS hl
  exact lv_icmp_le hx hb d ht (fun h => kt ((ja_le ha1 hb1).mp h) H locs lsA hH hS hl) (fun h => kf (fun q => h ((ja_le ha1 hb1).mpr q)) H locs lsA hH hS hl)
theorem r_if_le (F : ja_F C own cc nl rm) {a : Int} (ha1 : ja_in a) {off : Int} {tgt : Nat} (d : decode cc pc = .ok (.ifCond .le off, 3)) {pc' : Nat} (hpc : pc + 3 = pc') (ht : (pc : Int) + off = (tgt : Int)) (kt : a ≤ 0 → ja_W C cells slots lay mem n tgt ls st) (kf : ¬ (a ≤ 0) → ja_W C cells slots lay mem n pc' ls st) : ja_W C cells slots lay mem n pc ls (.int (ja_I a) :: st) := by
  subst hpc
  obtain ⟨p, l, e, R, s, m, args, below, meth, c, D, cA, B, nL, Q⟩ := C
  obtain ⟨hnl, hrm, hx, hb, hml, hown, hts, ⟨hK, hAO, hNw⟩, hlk, hB⟩ := F
  subst hnl; subst hrm
  intro H locs lsA hH hS hl
  exact lv_if_le hx hb d ht (fun h => kt ((ja_le ha1 ja_in0).mp h) H locs lsA hH hS hl) (fun h => kf (fun q => h ((ja_le ha1 ja_in0).mpr q)) H locs lsA hH hS hl)
theorem r_goto (F : ja_F C own cc nl rm) {off : Int} {tgt : Nat} (d : decode cc pc = .ok (.goto off, 3)) (ht : (pc : Int) + off = (tgt : Int)) (k : ja_W C cells slots lay mem n tgt ls st) : ja_W C cells slots lay mem n pc ls st := by
  obtain ⟨p, l, e, R, s, m, args, below, meth, c, D, cA, B, nL, Q⟩ := C
  obtain ⟨hnl, hrm, hx, hb, hml, hown, hts, ⟨hK, hAO, hNw⟩, hlk, hB⟩ := F
  subst hnl; subst hrm
  intro H locs lsA hH hS hl
  exact lv_goto hx hb d ht (k H locs lsA hH hS hl)
theorem r_nonnull (F : ja_F C own cc nl rm) {x : Nat} {off : Int} {tgt : Nat} (d : decode cc pc = .ok (.ifnonnull off, 3)) (ht : (pc : Int) + off = (tgt : Int)) (k : ja_W C cells slots lay mem n tgt ls st) : ja_W C cells slots lay mem n pc ls (.ref x :: st) := by
  obtain ⟨p, l, e, R, s, m, args, below, meth, c, D, cA, B, nL, Q⟩ := C
  obtain ⟨hnl, hrm, hx, hb, hml, hown, hts, ⟨hK, hAO, hNw⟩, hlk, hB⟩ := F
  subst hnl; subst hrm
  intro H locs lsA hH hS hl
  exact lv_ifnonnull hx hb d ht (k H locs lsA hH hS hl)
theorem r_nonnullN (F : ja_F C own cc nl rm) {off : Int} (d : decode cc pc = .ok (.ifnonnull off, 3)) {pc' : Nat} (hpc : pc + 3 = pc') (k : ja_W C cells slots lay mem n pc' ls st) : ja_W C cells slots lay mem n pc ls (.null :: st) := by
  subst hpc
  obtain ⟨p, l, e, R, s, m, args, below, meth, c, D, cA, B, nL, Q⟩ := C
  obtain ⟨hnl, hrm, hx, hb, hml, hown, hts, ⟨hK, hAO, hNw⟩, hlk, hB⟩ := F
  subst hnl; subst hrm
  intro H locs lsA hH hS hl
  exact lv_ifnonnullN hx hb d (k H locs lsA hH hS hl)
theorem r_tableIn (F : ja_F C own cc nl rm) {dflt lo hi : Int} {offs : Array Int} {len : Nat} {z off : Int} {tgt : Nat} (hz : ja_in z) (d : decode cc pc = .ok (.tableswitch dflt lo hi offs, len)) (h1 : lo ≤ z) (h2 : z ≤ hi) (ho : offs[(z - lo).toNat]? = some off) (ht : (pc : Int) + off = (tgt : Int)) (k : ja_W C cells slots lay mem n tgt ls st) : ja_W C cells slots lay mem n pc ls (.int (ja_I z) :: st) := by
  obtain ⟨p, l, e, R, s, m, args, below, meth, c, D, cA, B, nL, Q⟩ := C
  obtain ⟨hnl, hrm, hx, hb, hml, hown, hts, ⟨hK, hAO, hNw⟩, hlk, hB⟩ := F
  subst hnl; subst hrm
  intro H locs lsA hH hS hl
  exact lv_tableIn hx hb d (by rw [ja_toInt hz]; omega) (by rw [ja_toInt hz]; omega) (by rw [ja_toInt hz]; exact ho) ht (k H locs lsA hH hS hl)
theorem r_tableOut (F : ja_F C own cc nl rm) {dflt lo hi : Int} {offs : Array Int} {len : Nat} {z : Int} {tgt : Nat} (hz : ja_in z) (d : decode cc pc = .ok (.tableswitch dflt lo hi offs, len)) (h1 : z < lo ∨ hi < z) (ht : (pc : Int) + dflt = (tgt : Int)) (k : ja_W C cells slots lay mem n tgt ls st) : ja_W C cells slots lay mem n pc ls (.int (ja_I z) :: st) := by
  obtain ⟨p, l, e, R, s, m, args, below, meth, c, D, cA, B, nL, Q⟩ := C
  obtain ⟨hnl, hrm, hx, hb, hml, hown, hts, ⟨hK, hAO, hNw⟩, hlk, hB⟩ := F
  subst hnl; subst hrm
  intro H locs lsA hH hS hl
  exact lv_tableOut hx hb d (by rw [ja_toInt hz]; exact h1) ht (k H locs lsA hH hS hl)
theorem r_lookup (F : ja_F C own cc nl rm) {dflt : Int} {ps : Array (Int × Int)} {len : Nat} {z off : Int} {tgt : Nat} (hz : ja_in z) (d : decode cc pc = .ok (.lookupswitch dflt ps, len)) (hp : (ps.toList.zip (ps.toList.drop 1)).all (fun (a, next) => a.1 < next.1) = true) (ho : Op.lookupswitch.offset ps.toList dflt z = off) (ht : (pc : Int) + off = (tgt : Int)) (k : ja_W C cells slots lay mem n tgt ls st) : ja_W C cells slots lay mem n pc ls (.int (ja_I z) :: st) := by
  obtain ⟨p, l, e, R, s, m, args, below, meth, c, D, cA, B, nL, Q⟩ := C
  obtain ⟨hnl, hrm, hx, hb, hml, hown, hts, ⟨hK, hAO, hNw⟩, hlk, hB⟩ := F
  subst hnl; subst hrm
  intro H locs lsA hH hS hl
  exact lv_lookup hx hb d hp (by rw [ja_toInt hz]; exact ho) ht (k H locs lsA hH hS hl)
end
section
variable {C : ja_C} {own : String} {cc : ByteArray} {nl : Nat} {rm : Room} {cells slots n : Nat} {lay : ja_Y} {mem : ja_M} {pc : Nat} {st : List Value}
theorem r_ist0 (F : ja_F C own cc nl rm) {x0 : Option Value} {r : List (Option Value)} {x : Int32} (hn : 0 < nl) (hp : ja_pre (x0 :: r) 0 = true) (d : decode cc pc = .ok (.istore_n 0, 1)) {pc' : Nat} (hpc : pc + 1 = pc') (k : ja_W C cells slots lay mem n pc' (some (.int x) :: r) st) : ja_W C cells slots lay mem n pc (x0 :: r) (.int x :: st) := r_istore_n F rfl hn hp rfl d hpc k
theorem r_ast0 (F : ja_F C own cc nl rm) {x0 : Option Value} {r : List (Option Value)} {x : Nat} (hn : 0 < nl) (hp : ja_pre (x0 :: r) 0 = true) (d : decode cc pc = .ok (.astore_n 0, 1)) {pc' : Nat} (hpc : pc + 1 = pc') (k : ja_W C cells slots lay mem n pc' (some (.ref x) :: r) st) : ja_W C cells slots lay mem n pc (x0 :: r) (.ref x :: st) := r_astore_n F rfl hn hp rfl d hpc k
theorem r_inc0 (F : ja_F C own cc nl rm)  {r : List (Option Value)} {x dz : Int} (hn : 0 < nl) (hp : ja_pre (some (.int (ja_I x)) :: r) 0 = true) (d : decode cc pc = .ok (.iinc 0 dz, 3)) {pc' : Nat} (hpc : pc + 3 = pc') (k : ja_W C cells slots lay mem n pc' (some (.int (ja_I (x + dz))) :: r) st) : ja_W C cells slots lay mem n pc (some (.int (ja_I x)) :: r) st := r_iinc F (i := 0) rfl hn hp rfl d hpc k
theorem r_lst0 (F : ja_F C own cc nl rm) {x0 x1 : Option Value} {r : List (Option Value)} {x : Int64} (hn : 0 + 1 < nl) (hp : ja_pre (x0 :: x1 :: r) 0 = true) (d : decode cc pc = .ok (.lstore_n 0, 1)) {pc' : Nat} (hpc : pc + 1 = pc') (k : ja_W C cells slots lay mem n pc' (some (.long x) :: none :: r) st) : ja_W C cells slots lay mem n pc (x0 :: x1 :: r) (.long x :: st) := r_lstore_n F rfl hn hp rfl d hpc k
theorem r_ist1 (F : ja_F C own cc nl rm) {x0 x1 : Option Value} {r : List (Option Value)} {x : Int32} (hn : 1 < nl) (hp : ja_pre (x0 :: x1 :: r) 1 = true) (d : decode cc pc = .ok (.istore_n 1, 1)) {pc' : Nat} (hpc : pc + 1 = pc') (k : ja_W C cells slots lay mem n pc' (x0 :: some (.int x) :: r) st) : ja_W C cells slots lay mem n pc (x0 :: x1 :: r) (.int x :: st) := r_istore_n F rfl hn hp rfl d hpc k
theorem r_ast1 (F : ja_F C own cc nl rm) {x0 x1 : Option Value} {r : List (Option Value)} {x : Nat} (hn : 1 < nl) (hp : ja_pre (x0 :: x1 :: r) 1 = true) (d : decode cc pc = .ok (.astore_n 1, 1)) {pc' : Nat} (hpc : pc + 1 = pc') (k : ja_W C cells slots lay mem n pc' (x0 :: some (.ref x) :: r) st) : ja_W C cells slots lay mem n pc (x0 :: x1 :: r) (.ref x :: st) := r_astore_n F rfl hn hp rfl d hpc k
theorem r_inc1 (F : ja_F C own cc nl rm) {x0 : Option Value} {r : List (Option Value)} {x dz : Int} (hn : 1 < nl) (hp : ja_pre (x0 :: some (.int (ja_I x)) :: r) 1 = true) (d : decode cc pc = .ok (.iinc 1 dz, 3)) {pc' : Nat} (hpc : pc + 3 = pc') (k : ja_W C cells slots lay mem n pc' (x0 :: some (.int (ja_I (x + dz))) :: r) st) : ja_W C cells slots lay mem n pc (x0 :: some (.int (ja_I x)) :: r) st := r_iinc F (i := 1) rfl hn hp rfl d hpc k
theorem r_lst1 (F : ja_F C own cc nl rm) {x0 x1 x2 : Option Value} {r : List (Option Value)} {x : Int64} (hn : 1 + 1 < nl) (hp : ja_pre (x0 :: x1 :: x2 :: r) 1 = true) (d : decode cc pc = .ok (.lstore_n 1, 1)) {pc' : Nat} (hpc : pc + 1 = pc') (k : ja_W C cells slots lay mem n pc' (x0 :: some (.long x) :: none :: r) st) : ja_W C cells slots lay mem n pc (x0 :: x1 :: x2 :: r) (.long x :: st) := r_lstore_n F rfl hn hp rfl d hpc k
theorem r_ist2 (F : ja_F C own cc nl rm) {x0 x1 x2 : Option Value} {r : List (Option Value)} {x : Int32} (hn : 2 < nl) (hp : ja_pre (x0 :: x1 :: x2 :: r) 2 = true) (d : decode cc pc = .ok (.istore_n 2, 1)) {pc' : Nat} (hpc : pc + 1 = pc') (k : ja_W C cells slots lay mem n pc' (x0 :: x1 :: some (.int x) :: r) st) : ja_W C cells slots lay mem n pc (x0 :: x1 :: x2 :: r) (.int x :: st) := r_istore_n F rfl hn hp rfl d hpc k
theorem r_ast2 (F : ja_F C own cc nl rm) {x0 x1 x2 : Option Value} {r : List (Option Value)} {x : Nat} (hn : 2 < nl) (hp : ja_pre (x0 :: x1 :: x2 :: r) 2 = true) (d : decode cc pc = .ok (.astore_n 2, 1)) {pc' : Nat} (hpc : pc + 1 = pc') (k : ja_W C cells slots lay mem n pc' (x0 :: x1 :: some (.ref x) :: r) st) : ja_W C cells slots lay mem n pc (x0 :: x1 :: x2 :: r) (.ref x :: st) := r_astore_n F rfl hn hp rfl d hpc k
theorem r_inc2 (F : ja_F C own cc nl rm) {x0 x1 : Option Value} {r : List (Option Value)} {x dz : Int} (hn : 2 < nl) (hp : ja_pre (x0 :: x1 :: some (.int (ja_I x)) :: r) 2 = true) (d : decode cc pc = .ok (.iinc 2 dz, 3)) {pc' : Nat} (hpc : pc + 3 = pc') (k : ja_W C cells slots lay mem n pc' (x0 :: x1 :: some (.int (ja_I (x + dz))) :: r) st) : ja_W C cells slots lay mem n pc (x0 :: x1 :: some (.int (ja_I x)) :: r) st := r_iinc F (i := 2) rfl hn hp rfl d hpc k
theorem r_lst2 (F : ja_F C own cc nl rm) {x0 x1 x2 x3 : Option Value} {r : List (Option Value)} {x : Int64} (hn : 2 + 1 < nl) (hp : ja_pre (x0 :: x1 :: x2 :: x3 :: r) 2 = true) (d : decode cc pc = .ok (.lstore_n 2, 1)) {pc' : Nat} (hpc : pc + 1 = pc') (k : ja_W C cells slots lay mem n pc' (x0 :: x1 :: some (.long x) :: none :: r) st) : ja_W C cells slots lay mem n pc (x0 :: x1 :: x2 :: x3 :: r) (.long x :: st) := r_lstore_n F rfl hn hp rfl d hpc k
theorem r_ist3 (F : ja_F C own cc nl rm) {x0 x1 x2 x3 : Option Value} {r : List (Option Value)} {x : Int32} (hn : 3 < nl) (hp : ja_pre (x0 :: x1 :: x2 :: x3 :: r) 3 = true) (d : decode cc pc = .ok (.istore_n 3, 1)) {pc' : Nat} (hpc : pc + 1 = pc') (k : ja_W C cells slots lay mem n pc' (x0 :: x1 :: x2 :: some (.int x) :: r) st) : ja_W C cells slots lay mem n pc (x0 :: x1 :: x2 :: x3 :: r) (.int x :: st) := r_istore_n F rfl hn hp rfl d hpc k
theorem r_ast3 (F : ja_F C own cc nl rm) {x0 x1 x2 x3 : Option Value} {r : List (Option Value)} {x : Nat} (hn : 3 < nl) (hp : ja_pre (x0 :: x1 :: x2 :: x3 :: r) 3 = true) (d : decode cc pc = .ok (.astore_n 3, 1)) {pc' : Nat} (hpc : pc + 1 = pc') (k : ja_W C cells slots lay mem n pc' (x0 :: x1 :: x2 :: some (.ref x) :: r) st) : ja_W C cells slots lay mem n pc (x0 :: x1 :: x2 :: x3 :: r) (.ref x :: st) := r_astore_n F rfl hn hp rfl d hpc k
theorem r_inc3 (F : ja_F C own cc nl rm) {x0 x1 x2 : Option Value} {r : List (Option Value)} {x dz : Int} (hn : 3 < nl) (hp : ja_pre (x0 :: x1 :: x2 :: some (.int (ja_I x)) :: r) 3 = true) (d : decode cc pc = .ok (.iinc 3 dz, 3)) {pc' : Nat} (hpc : pc + 3 = pc') (k : ja_W C cells slots lay mem n pc' (x0 :: x1 :: x2 :: some (.int (ja_I (x + dz))) :: r) st) : ja_W C cells slots lay mem n pc (x0 :: x1 :: x2 :: some (.int (ja_I x)) :: r) st := r_iinc F (i := 3) rfl hn hp rfl d hpc k
theorem r_lst3 (F : ja_F C own cc nl rm) {x0 x1 x2 x3 x4 : Option Value} {r : List (Option Value)} {x : Int64} (hn : 3 + 1 < nl) (hp : ja_pre (x0 :: x1 :: x2 :: x3 :: x4 :: r) 3 = true) (d : decode cc pc = .ok (.lstore_n 3, 1)) {pc' : Nat} (hpc : pc + 1 = pc') (k : ja_W C cells slots lay mem n pc' (x0 :: x1 :: x2 :: some (.long x) :: none :: r) st) : ja_W C cells slots lay mem n pc (x0 :: x1 :: x2 :: x3 :: x4 :: r) (.long x :: st) := r_lstore_n F rfl hn hp rfl d hpc k
theorem r_ist4 (F : ja_F C own cc nl rm) {x0 x1 x2 x3 x4 : Option Value} {r : List (Option Value)} {x : Int32} (hn : 4 < nl) (hp : ja_pre (x0 :: x1 :: x2 :: x3 :: x4 :: r) 4 = true) (d : decode cc pc = .ok (.istore 4, 2)) {pc' : Nat} (hpc : pc + 2 = pc') (k : ja_W C cells slots lay mem n pc' (x0 :: x1 :: x2 :: x3 :: some (.int x) :: r) st) : ja_W C cells slots lay mem n pc (x0 :: x1 :: x2 :: x3 :: x4 :: r) (.int x :: st) := r_istore F hn hp rfl d hpc k
theorem r_ast4 (F : ja_F C own cc nl rm) {x0 x1 x2 x3 x4 : Option Value} {r : List (Option Value)} {x : Nat} (hn : 4 < nl) (hp : ja_pre (x0 :: x1 :: x2 :: x3 :: x4 :: r) 4 = true) (d : decode cc pc = .ok (.astore 4, 2)) {pc' : Nat} (hpc : pc + 2 = pc') (k : ja_W C cells slots lay mem n pc' (x0 :: x1 :: x2 :: x3 :: some (.ref x) :: r) st) : ja_W C cells slots lay mem n pc (x0 :: x1 :: x2 :: x3 :: x4 :: r) (.ref x :: st) := r_astore F hn hp rfl d hpc k
theorem r_inc4 (F : ja_F C own cc nl rm) {x0 x1 x2 x3 : Option Value} {r : List (Option Value)} {x dz : Int} (hn : 4 < nl) (hp : ja_pre (x0 :: x1 :: x2 :: x3 :: some (.int (ja_I x)) :: r) 4 = true) (d : decode cc pc = .ok (.iinc 4 dz, 3)) {pc' : Nat} (hpc : pc + 3 = pc') (k : ja_W C cells slots lay mem n pc' (x0 :: x1 :: x2 :: x3 :: some (.int (ja_I (x + dz))) :: r) st) : ja_W C cells slots lay mem n pc (x0 :: x1 :: x2 :: x3 :: some (.int (ja_I x)) :: r) st := r_iinc F (i := 4) rfl hn hp rfl d hpc k
theorem r_lst4 (F : ja_F C own cc nl rm) {x0 x1 x2 x3 x4 x5 : Option Value} {r : List (Option Value)} {x : Int64} (hn : 4 + 1 < nl) (hp : ja_pre (x0 :: x1 :: x2 :: x3 :: x4 :: x5 :: r) 4 = true) (d : decode cc pc = .ok (.lstore 4, 2)) {pc' : Nat} (hpc : pc + 2 = pc') (k : ja_W C cells slots lay mem n pc' (x0 :: x1 :: x2 :: x3 :: some (.long x) :: none :: r) st) : ja_W C cells slots lay mem n pc (x0 :: x1 :: x2 :: x3 :: x4 :: x5 :: r) (.long x :: st) := r_lstore F hn hp rfl d hpc k
theorem r_ist5 (F : ja_F C own cc nl rm) {x0 x1 x2 x3 x4 x5 : Option Value} {r : List (Option Value)} {x : Int32} (hn : 5 < nl) (hp : ja_pre (x0 :: x1 :: x2 :: x3 :: x4 :: x5 :: r) 5 = true) (d : decode cc pc = .ok (.istore 5, 2)) {pc' : Nat} (hpc : pc + 2 = pc') (k : ja_W C cells slots lay mem n pc' (x0 :: x1 :: x2 :: x3 :: x4 :: some (.int x) :: r) st) : ja_W C cells slots lay mem n pc (x0 :: x1 :: x2 :: x3 :: x4 :: x5 :: r) (.int x :: st) := r_istore F hn hp rfl d hpc k
theorem r_ast5 (F : ja_F C own cc nl rm) {x0 x1 x2 x3 x4 x5 : Option Value} {r : List (Option Value)} {x : Nat} (hn : 5 < nl) (hp : ja_pre (x0 :: x1 :: x2 :: x3 :: x4 :: x5 :: r) 5 = true) (d : decode cc pc = .ok (.astore 5, 2)) {pc' : Nat} (hpc : pc + 2 = pc') (k : ja_W C cells slots lay mem n pc' (x0 :: x1 :: x2 :: x3 :: x4 :: some (.ref x) :: r) st) : ja_W C cells slots lay mem n pc (x0 :: x1 :: x2 :: x3 :: x4 :: x5 :: r) (.ref x :: st) := r_astore F hn hp rfl d hpc k
theorem r_inc5 (F : ja_F C own cc nl rm) {x0 x1 x2 x3 x4 : Option Value} {r : List (Option Value)} {x dz : Int} (hn : 5 < nl) (hp : ja_pre (x0 :: x1 :: x2 :: x3 :: x4 :: some (.int (ja_I x)) :: r) 5 = true) (d : decode cc pc = .ok (.iinc 5 dz, 3)) {pc' : Nat} (hpc : pc + 3 = pc') (k : ja_W C cells slots lay mem n pc' (x0 :: x1 :: x2 :: x3 :: x4 :: some (.int (ja_I (x + dz))) :: r) st) : ja_W C cells slots lay mem n pc (x0 :: x1 :: x2 :: x3 :: x4 :: some (.int (ja_I x)) :: r) st := r_iinc F (i := 5) rfl hn hp rfl d hpc k
theorem r_lst5 (F : ja_F C own cc nl rm) {x0 x1 x2 x3 x4 x5 x6 : Option Value} {r : List (Option Value)} {x : Int64} (hn : 5 + 1 < nl) (hp : ja_pre (x0 :: x1 :: x2 :: x3 :: x4 :: x5 :: x6 :: r) 5 = true) (d : decode cc pc = .ok (.lstore 5, 2)) {pc' : Nat} (hpc : pc + 2 = pc') (k : ja_W C cells slots lay mem n pc' (x0 :: x1 :: x2 :: x3 :: x4 :: some (.long x) :: none :: r) st) : ja_W C cells slots lay mem n pc (x0 :: x1 :: x2 :: x3 :: x4 :: x5 :: x6 :: r) (.long x :: st) := r_lstore F hn hp rfl d hpc k
theorem r_ist6 (F : ja_F C own cc nl rm) {x0 x1 x2 x3 x4 x5 x6 : Option Value} {r : List (Option Value)} {x : Int32} (hn : 6 < nl) (hp : ja_pre (x0 :: x1 :: x2 :: x3 :: x4 :: x5 :: x6 :: r) 6 = true) (d : decode cc pc = .ok (.istore 6, 2)) {pc' : Nat} (hpc : pc + 2 = pc') (k : ja_W C cells slots lay mem n pc' (x0 :: x1 :: x2 :: x3 :: x4 :: x5 :: some (.int x) :: r) st) : ja_W C cells slots lay mem n pc (x0 :: x1 :: x2 :: x3 :: x4 :: x5 :: x6 :: r) (.int x :: st) := r_istore F hn hp rfl d hpc k
theorem r_ast6 (F : ja_F C own cc nl rm) {x0 x1 x2 x3 x4 x5 x6 : Option Value} {r : List (Option Value)} {x : Nat} (hn : 6 < nl) (hp : ja_pre (x0 :: x1 :: x2 :: x3 :: x4 :: x5 :: x6 :: r) 6 = true) (d : decode cc pc = .ok (.astore 6, 2)) {pc' : Nat} (hpc : pc + 2 = pc') (k : ja_W C cells slots lay mem n pc' (x0 :: x1 :: x2 :: x3 :: x4 :: x5 :: some (.ref x) :: r) st) : ja_W C cells slots lay mem n pc (x0 :: x1 :: x2 :: x3 :: x4 :: x5 :: x6 :: r) (.ref x :: st) := r_astore F hn hp rfl d hpc k
theorem r_inc6 (F : ja_F C own cc nl rm) {x0 x1 x2 x3 x4 x5 : Option Value} {r : List (Option Value)} {x dz : Int} (hn : 6 < nl) (hp : ja_pre (x0 :: x1 :: x2 :: x3 :: x4 :: x5 :: some (.int (ja_I x)) :: r) 6 = true) (d : decode cc pc = .ok (.iinc 6 dz, 3)) {pc' : Nat} (hpc : pc + 3 = pc') (k : ja_W C cells slots lay mem n pc' (x0 :: x1 :: x2 :: x3 :: x4 :: x5 :: some (.int (ja_I (x + dz))) :: r) st) : ja_W C cells slots lay mem n pc (x0 :: x1 :: x2 :: x3 :: x4 :: x5 :: some (.int (ja_I x)) :: r) st := r_iinc F (i := 6) rfl hn hp rfl d hpc k
theorem r_lst6 (F : ja_F C own cc nl rm) {x0 x1 x2 x3 x4 x5 x6 x7 : Option Value} {r : List (Option Value)} {x : Int64} (hn : 6 + 1 < nl) (hp : ja_pre (x0 :: x1 :: x2 :: x3 :: x4 :: x5 :: x6 :: x7 :: r) 6 = true) (d : decode cc pc = .ok (.lstore 6, 2)) {pc' : Nat} (hpc : pc + 2 = pc') (k : ja_W C cells slots lay mem n pc' (x0 :: x1 :: x2 :: x3 :: x4 :: x5 :: some (.long x) :: none :: r) st) : ja_W C cells slots lay mem n pc (x0 :: x1 :: x2 :: x3 :: x4 :: x5 :: x6 :: x7 :: r) (.long x :: st) := r_lstore F hn hp rfl d hpc k
theorem r_ist7 (F : ja_F C own cc nl rm) {x0 x1 x2 x3 x4 x5 x6 x7 : Option Value} {r : List (Option Value)} {x : Int32} (hn : 7 < nl) (hp : ja_pre (x0 :: x1 :: x2 :: x3 :: x4 :: x5 :: x6 :: x7 :: r) 7 = true) (d : decode cc pc = .ok (.istore 7, 2)) {pc' : Nat} (hpc : pc + 2 = pc') (k : ja_W C cells slots lay mem n pc' (x0 :: x1 :: x2 :: x3 :: x4 :: x5 :: x6 :: some (.int x) :: r) st) : ja_W C cells slots lay mem n pc (x0 :: x1 :: x2 :: x3 :: x4 :: x5 :: x6 :: x7 :: r) (.int x :: st) := r_istore F hn hp rfl d hpc k
theorem r_ast7 (F : ja_F C own cc nl rm) {x0 x1 x2 x3 x4 x5 x6 x7 : Option Value} {r : List (Option Value)} {x : Nat} (hn : 7 < nl) (hp : ja_pre (x0 :: x1 :: x2 :: x3 :: x4 :: x5 :: x6 :: x7 :: r) 7 = true) (d : decode cc pc = .ok (.astore 7, 2)) {pc' : Nat} (hpc : pc + 2 = pc') (k : ja_W C cells slots lay mem n pc' (x0 :: x1 :: x2 :: x3 :: x4 :: x5 :: x6 :: some (.ref x) :: r) st) : ja_W C cells slots lay mem n pc (x0 :: x1 :: x2 :: x3 :: x4 :: x5 :: x6 :: x7 :: r) (.ref x :: st) := r_astore F hn hp rfl d hpc k
theorem r_inc7 (F : ja_F C own cc nl rm) {x0 x1 x2 x3 x4 x5 x6 : Option Value} {r : List (Option Value)} {x dz : Int} (hn : 7 < nl) (hp : ja_pre (x0 :: x1 :: x2 :: x3 :: x4 :: x5 :: x6 :: some (.int (ja_I x)) :: r) 7 = true) (d : decode cc pc = .ok (.iinc 7 dz, 3)) {pc' : Nat} (hpc : pc + 3 = pc') (k : ja_W C cells slots lay mem n pc' (x0 :: x1 :: x2 :: x3 :: x4 :: x5 :: x6 :: some (.int (ja_I (x + dz))) :: r) st) : ja_W C cells slots lay mem n pc (x0 :: x1 :: x2 :: x3 :: x4 :: x5 :: x6 :: some (.int (ja_I x)) :: r) st := r_iinc F (i := 7) rfl hn hp rfl d hpc k
theorem r_lst7 (F : ja_F C own cc nl rm) {x0 x1 x2 x3 x4 x5 x6 x7 x8 : Option Value} {r : List (Option Value)} {x : Int64} (hn : 7 + 1 < nl) (hp : ja_pre (x0 :: x1 :: x2 :: x3 :: x4 :: x5 :: x6 :: x7 :: x8 :: r) 7 = true) (d : decode cc pc = .ok (.lstore 7, 2)) {pc' : Nat} (hpc : pc + 2 = pc') (k : ja_W C cells slots lay mem n pc' (x0 :: x1 :: x2 :: x3 :: x4 :: x5 :: x6 :: some (.long x) :: none :: r) st) : ja_W C cells slots lay mem n pc (x0 :: x1 :: x2 :: x3 :: x4 :: x5 :: x6 :: x7 :: x8 :: r) (.long x :: st) := r_lstore F hn hp rfl d hpc k
theorem r_ist8 (F : ja_F C own cc nl rm) {x0 x1 x2 x3 x4 x5 x6 x7 x8 : Option Value} {r : List (Option Value)} {x : Int32} (hn : 8 < nl) (hp : ja_pre (x0 :: x1 :: x2 :: x3 :: x4 :: x5 :: x6 :: x7 :: x8 :: r) 8 = true) (d : decode cc pc = .ok (.istore 8, 2)) {pc' : Nat} (hpc : pc + 2 = pc') (k : ja_W C cells slots lay mem n pc' (x0 :: x1 :: x2 :: x3 :: x4 :: x5 :: x6 :: x7 :: some (.int x) :: r) st) : ja_W C cells slots lay mem n pc (x0 :: x1 :: x2 :: x3 :: x4 :: x5 :: x6 :: x7 :: x8 :: r) (.int x :: st) := r_istore F hn hp rfl d hpc k
theorem r_ast8 (F : ja_F C own cc nl rm) {x0 x1 x2 x3 x4 x5 x6 x7 x8 : Option Value} {r : List (Option Value)} {x : Nat} (hn : 8 < nl) (hp : ja_pre (x0 :: x1 :: x2 :: x3 :: x4 :: x5 :: x6 :: x7 :: x8 :: r) 8 = true) (d : decode cc pc = .ok (.astore 8, 2)) {pc' : Nat} (hpc : pc + 2 = pc') (k : ja_W C cells slots lay mem n pc' (x0 :: x1 :: x2 :: x3 :: x4 :: x5 :: x6 :: x7 :: some (.ref x) :: r) st) : ja_W C cells slots lay mem n pc (x0 :: x1 :: x2 :: x3 :: x4 :: x5 :: x6 :: x7 :: x8 :: r) (.ref x :: st) := r_astore F hn hp rfl d hpc k
theorem r_inc8 (F : ja_F C own cc nl rm) {x0 x1 x2 x3 x4 x5 x6 x7 : Option Value} {r : List (Option Value)} {x dz : Int} (hn : 8 < nl) (hp : ja_pre (x0 :: x1 :: x2 :: x3 :: x4 :: x5 :: x6 :: x7 :: some (.int (ja_I x)) :: r) 8 = true) (d : decode cc pc = .ok (.iinc 8 dz, 3)) {pc' : Nat} (hpc : pc + 3 = pc') (k : ja_W C cells slots lay mem n pc' (x0 :: x1 :: x2 :: x3 :: x4 :: x5 :: x6 :: x7 :: some (.int (ja_I (x + dz))) :: r) st) : ja_W C cells slots lay mem n pc (x0 :: x1 :: x2 :: x3 :: x4 :: x5 :: x6 :: x7 :: some (.int (ja_I x)) :: r) st := r_iinc F (i := 8) rfl hn hp rfl d hpc k
theorem r_lst8 (F : ja_F C own cc nl rm) {x0 x1 x2 x3 x4 x5 x6 x7 x8 x9 : Option Value} {r : List (Option Value)} {x : Int64} (hn : 8 + 1 < nl) (hp : ja_pre (x0 :: x1 :: x2 :: x3 :: x4 :: x5 :: x6 :: x7 :: x8 :: x9 :: r) 8 = true) (d : decode cc pc = .ok (.lstore 8, 2)) {pc' : Nat} (hpc : pc + 2 = pc') (k : ja_W C cells slots lay mem n pc' (x0 :: x1 :: x2 :: x3 :: x4 :: x5 :: x6 :: x7 :: some (.long x) :: none :: r) st) : ja_W C cells slots lay mem n pc (x0 :: x1 :: x2 :: x3 :: x4 :: x5 :: x6 :: x7 :: x8 :: x9 :: r) (.long x :: st) := r_lstore F hn hp rfl d hpc k
theorem r_ist9 (F : ja_F C own cc nl rm) {x0 x1 x2 x3 x4 x5 x6 x7 x8 x9 : Option Value} {r : List (Option Value)} {x : Int32} (hn : 9 < nl) (hp : ja_pre (x0 :: x1 :: x2 :: x3 :: x4 :: x5 :: x6 :: x7 :: x8 :: x9 :: r) 9 = true) (d : decode cc pc = .ok (.istore 9, 2)) {pc' : Nat} (hpc : pc + 2 = pc') (k : ja_W C cells slots lay mem n pc' (x0 :: x1 :: x2 :: x3 :: x4 :: x5 :: x6 :: x7 :: x8 :: some (.int x) :: r) st) : ja_W C cells slots lay mem n pc (x0 :: x1 :: x2 :: x3 :: x4 :: x5 :: x6 :: x7 :: x8 :: x9 :: r) (.int x :: st) := r_istore F hn hp rfl d hpc k
theorem r_ast9 (F : ja_F C own cc nl rm) {x0 x1 x2 x3 x4 x5 x6 x7 x8 x9 : Option Value} {r : List (Option Value)} {x : Nat} (hn : 9 < nl) (hp : ja_pre (x0 :: x1 :: x2 :: x3 :: x4 :: x5 :: x6 :: x7 :: x8 :: x9 :: r) 9 = true) (d : decode cc pc = .ok (.astore 9, 2)) {pc' : Nat} (hpc : pc + 2 = pc') (k : ja_W C cells slots lay mem n pc' (x0 :: x1 :: x2 :: x3 :: x4 :: x5 :: x6 :: x7 :: x8 :: some (.ref x) :: r) st) : ja_W C cells slots lay mem n pc (x0 :: x1 :: x2 :: x3 :: x4 :: x5 :: x6 :: x7 :: x8 :: x9 :: r) (.ref x :: st) := r_astore F hn hp rfl d hpc k
theorem r_inc9 (F : ja_F C own cc nl rm) {x0 x1 x2 x3 x4 x5 x6 x7 x8 : Option Value} {r : List (Option Value)} {x dz : Int} (hn : 9 < nl) (hp : ja_pre (x0 :: x1 :: x2 :: x3 :: x4 :: x5 :: x6 :: x7 :: x8 :: some (.int (ja_I x)) :: r) 9 = true) (d : decode cc pc = .ok (.iinc 9 dz, 3)) {pc' : Nat} (hpc : pc + 3 = pc') (k : ja_W C cells slots lay mem n pc' (x0 :: x1 :: x2 :: x3 :: x4 :: x5 :: x6 :: x7 :: x8 :: some (.int (ja_I (x + dz))) :: r) st) : ja_W C cells slots lay mem n pc (x0 :: x1 :: x2 :: x3 :: x4 :: x5 :: x6 :: x7 :: x8 :: some (.int (ja_I x)) :: r) st := r_iinc F (i := 9) rfl hn hp rfl d hpc k
theorem r_lst9 (F : ja_F C own cc nl rm) {x0 x1 x2 x3 x4 x5 x6 x7 x8 x9 x10 : Option Value} {r : List (Option Value)} {x : Int64} (hn : 9 + 1 < nl) (hp : ja_pre (x0 :: x1 :: x2 :: x3 :: x4 :: x5 :: x6 :: x7 :: x8 :: x9 :: x10 :: r) 9 = true) (d : decode cc pc = .ok (.lstore 9, 2)) {pc' : Nat} (hpc : pc + 2 = pc') (k : ja_W C cells slots lay mem n pc' (x0 :: x1 :: x2 :: x3 :: x4 :: x5 :: x6 :: x7 :: x8 :: some (.long x) :: none :: r) st) : ja_W C cells slots lay mem n pc (x0 :: x1 :: x2 :: x3 :: x4 :: x5 :: x6 :: x7 :: x8 :: x9 :: x10 :: r) (.long x :: st) := r_lstore F hn hp rfl d hpc k
theorem r_ist10 (F : ja_F C own cc nl rm) {x0 x1 x2 x3 x4 x5 x6 x7 x8 x9 x10 : Option Value} {r : List (Option Value)} {x : Int32} (hn : 10 < nl) (hp : ja_pre (x0 :: x1 :: x2 :: x3 :: x4 :: x5 :: x6 :: x7 :: x8 :: x9 :: x10 :: r) 10 = true) (d : decode cc pc = .ok (.istore 10, 2)) {pc' : Nat} (hpc : pc + 2 = pc') (k : ja_W C cells slots lay mem n pc' (x0 :: x1 :: x2 :: x3 :: x4 :: x5 :: x6 :: x7 :: x8 :: x9 :: some (.int x) :: r) st) : ja_W C cells slots lay mem n pc (x0 :: x1 :: x2 :: x3 :: x4 :: x5 :: x6 :: x7 :: x8 :: x9 :: x10 :: r) (.int x :: st) := r_istore F hn hp rfl d hpc k
theorem r_ast10 (F : ja_F C own cc nl rm) {x0 x1 x2 x3 x4 x5 x6 x7 x8 x9 x10 : Option Value} {r : List (Option Value)} {x : Nat} (hn : 10 < nl) (hp : ja_pre (x0 :: x1 :: x2 :: x3 :: x4 :: x5 :: x6 :: x7 :: x8 :: x9 :: x10 :: r) 10 = true) (d : decode cc pc = .ok (.astore 10, 2)) {pc' : Nat} (hpc : pc + 2 = pc') (k : ja_W C cells slots lay mem n pc' (x0 :: x1 :: x2 :: x3 :: x4 :: x5 :: x6 :: x7 :: x8 :: x9 :: some (.ref x) :: r) st) : ja_W C cells slots lay mem n pc (x0 :: x1 :: x2 :: x3 :: x4 :: x5 :: x6 :: x7 :: x8 :: x9 :: x10 :: r) (.ref x :: st) := r_astore F hn hp rfl d hpc k
theorem r_inc10 (F : ja_F C own cc nl rm) {x0 x1 x2 x3 x4 x5 x6 x7 x8 x9 : Option Value} {r : List (Option Value)} {x dz : Int} (hn : 10 < nl) (hp : ja_pre (x0 :: x1 :: x2 :: x3 :: x4 :: x5 :: x6 :: x7 :: x8 :: x9 :: some (.int (ja_I x)) :: r) 10 = true) (d : decode cc pc = .ok (.iinc 10 dz, 3)) {pc' : Nat} (hpc : pc + 3 = pc') (k : ja_W C cells slots lay mem n pc' (x0 :: x1 :: x2 :: x3 :: x4 :: x5 :: x6 :: x7 :: x8 :: x9 :: some (.int (ja_I (x + dz))) :: r) st) : ja_W C cells slots lay mem n pc (x0 :: x1 :: x2 :: x3 :: x4 :: x5 :: x6 :: x7 :: x8 :: x9 :: some (.int (ja_I x)) :: r) st := r_iinc F (i := 10) rfl hn hp rfl d hpc k
theorem r_lst10 (F : ja_F C own cc nl rm) {x0 x1 x2 x3 x4 x5 x6 x7 x8 x9 x10 x11 : Option Value} {r : List (Option Value)} {x : Int64} (hn : 10 + 1 < nl) (hp : ja_pre (x0 :: x1 :: x2 :: x3 :: x4 :: x5 :: x6 :: x7 :: x8 :: x9 :: x10 :: x11 :: r) 10 = true) (d : decode cc pc = .ok (.lstore 10, 2)) {pc' : Nat} (hpc : pc + 2 = pc') (k : ja_W C cells slots lay mem n pc' (x0 :: x1 :: x2 :: x3 :: x4 :: x5 :: x6 :: x7 :: x8 :: x9 :: some (.long x) :: none :: r) st) : ja_W C cells slots lay mem n pc (x0 :: x1 :: x2 :: x3 :: x4 :: x5 :: x6 :: x7 :: x8 :: x9 :: x10 :: x11 :: r) (.long x :: st) := r_lstore F hn hp rfl d hpc k
theorem r_ist11 (F : ja_F C own cc nl rm) {x0 x1 x2 x3 x4 x5 x6 x7 x8 x9 x10 x11 : Option Value} {r : List (Option Value)} {x : Int32} (hn : 11 < nl) (hp : ja_pre (x0 :: x1 :: x2 :: x3 :: x4 :: x5 :: x6 :: x7 :: x8 :: x9 :: x10 :: x11 :: r) 11 = true) (d : decode cc pc = .ok (.istore 11, 2)) {pc' : Nat} (hpc : pc + 2 = pc') (k : ja_W C cells slots lay mem n pc' (x0 :: x1 :: x2 :: x3 :: x4 :: x5 :: x6 :: x7 :: x8 :: x9 :: x10 :: some (.int x) :: r) st) : ja_W C cells slots lay mem n pc (x0 :: x1 :: x2 :: x3 :: x4 :: x5 :: x6 :: x7 :: x8 :: x9 :: x10 :: x11 :: r) (.int x :: st) := r_istore F hn hp rfl d hpc k
theorem r_ast11 (F : ja_F C own cc nl rm) {x0 x1 x2 x3 x4 x5 x6 x7 x8 x9 x10 x11 : Option Value} {r : List (Option Value)} {x : Nat} (hn : 11 < nl) (hp : ja_pre (x0 :: x1 :: x2 :: x3 :: x4 :: x5 :: x6 :: x7 :: x8 :: x9 :: x10 :: x11 :: r) 11 = true) (d : decode cc pc = .ok (.astore 11, 2)) {pc' : Nat} (hpc : pc + 2 = pc') (k : ja_W C cells slots lay mem n pc' (x0 :: x1 :: x2 :: x3 :: x4 :: x5 :: x6 :: x7 :: x8 :: x9 :: x10 :: some (.ref x) :: r) st) : ja_W C cells slots lay mem n pc (x0 :: x1 :: x2 :: x3 :: x4 :: x5 :: x6 :: x7 :: x8 :: x9 :: x10 :: x11 :: r) (.ref x :: st) := r_astore F hn hp rfl d hpc k
theorem r_inc11 (F : ja_F C own cc nl rm) {x0 x1 x2 x3 x4 x5 x6 x7 x8 x9 x10 : Option Value} {r : List (Option Value)} {x dz : Int} (hn : 11 < nl) (hp : ja_pre (x0 :: x1 :: x2 :: x3 :: x4 :: x5 :: x6 :: x7 :: x8 :: x9 :: x10 :: some (.int (ja_I x)) :: r) 11 = true) (d : decode cc pc = .ok (.iinc 11 dz, 3)) {pc' : Nat} (hpc : pc + 3 = pc') (k : ja_W C cells slots lay mem n pc' (x0 :: x1 :: x2 :: x3 :: x4 :: x5 :: x6 :: x7 :: x8 :: x9 :: x10 :: some (.int (ja_I (x + dz))) :: r) st) : ja_W C cells slots lay mem n pc (x0 :: x1 :: x2 :: x3 :: x4 :: x5 :: x6 :: x7 :: x8 :: x9 :: x10 :: some (.int (ja_I x)) :: r) st := r_iinc F (i := 11) rfl hn hp rfl d hpc k
theorem r_lst11 (F : ja_F C own cc nl rm) {x0 x1 x2 x3 x4 x5 x6 x7 x8 x9 x10 x11 x12 : Option Value} {r : List (Option Value)} {x : Int64} (hn : 11 + 1 < nl) (hp : ja_pre (x0 :: x1 :: x2 :: x3 :: x4 :: x5 :: x6 :: x7 :: x8 :: x9 :: x10 :: x11 :: x12 :: r) 11 = true) (d : decode cc pc = .ok (.lstore 11, 2)) {pc' : Nat} (hpc : pc + 2 = pc') (k : ja_W C cells slots lay mem n pc' (x0 :: x1 :: x2 :: x3 :: x4 :: x5 :: x6 :: x7 :: x8 :: x9 :: x10 :: some (.long x) :: none :: r) st) : ja_W C cells slots lay mem n pc (x0 :: x1 :: x2 :: x3 :: x4 :: x5 :: x6 :: x7 :: x8 :: x9 :: x10 :: x11 :: x12 :: r) (.long x :: st) := r_lstore F hn hp rfl d hpc k
theorem r_ist12 (F : ja_F C own cc nl rm) {x0 x1 x2 x3 x4 x5 x6 x7 x8 x9 x10 x11 x12 : Option Value} {r : List (Option Value)} {x : Int32} (hn : 12 < nl) (hp : ja_pre (x0 :: x1 :: x2 :: x3 :: x4 :: x5 :: x6 :: x7 :: x8 :: x9 :: x10 :: x11 :: x12 :: r) 12 = true) (d : decode cc pc = .ok (.istore 12, 2)) {pc' : Nat} (hpc : pc + 2 = pc') (k : ja_W C cells slots lay mem n pc' (x0 :: x1 :: x2 :: x3 :: x4 :: x5 :: x6 :: x7 :: x8 :: x9 :: x10 :: x11 :: some (.int x) :: r) st) : ja_W C cells slots lay mem n pc (x0 :: x1 :: x2 :: x3 :: x4 :: x5 :: x6 :: x7 :: x8 :: x9 :: x10 :: x11 :: x12 :: r) (.int x :: st) := r_istore F hn hp rfl d hpc k
theorem r_ast12 (F : ja_F C own cc nl rm) {x0 x1 x2 x3 x4 x5 x6 x7 x8 x9 x10 x11 x12 : Option Value} {r : List (Option Value)} {x : Nat} (hn : 12 < nl) (hp : ja_pre (x0 :: x1 :: x2 :: x3 :: x4 :: x5 :: x6 :: x7 :: x8 :: x9 :: x10 :: x11 :: x12 :: r) 12 = true) (d : decode cc pc = .ok (.astore 12, 2)) {pc' : Nat} (hpc : pc + 2 = pc') (k : ja_W C cells slots lay mem n pc' (x0 :: x1 :: x2 :: x3 :: x4 :: x5 :: x6 :: x7 :: x8 :: x9 :: x10 :: x11 :: some (.ref x) :: r) st) : ja_W C cells slots lay mem n pc (x0 :: x1 :: x2 :: x3 :: x4 :: x5 :: x6 :: x7 :: x8 :: x9 :: x10 :: x11 :: x12 :: r) (.ref x :: st) := r_astore F hn hp rfl d hpc k
theorem r_inc12 (F : ja_F C own cc nl rm) {x0 x1 x2 x3 x4 x5 x6 x7 x8 x9 x10 x11 : Option Value} {r : List (Option Value)} {x dz : Int} (hn : 12 < nl) (hp : ja_pre (x0 :: x1 :: x2 :: x3 :: x4 :: x5 :: x6 :: x7 :: x8 :: x9 :: x10 :: x11 :: some (.int (ja_I x)) :: r) 12 = true) (d : decode cc pc = .ok (.iinc 12 dz, 3)) {pc' : Nat} (hpc : pc + 3 = pc') (k : ja_W C cells slots lay mem n pc' (x0 :: x1 :: x2 :: x3 :: x4 :: x5 :: x6 :: x7 :: x8 :: x9 :: x10 :: x11 :: some (.int (ja_I (x + dz))) :: r) st) : ja_W C cells slots lay mem n pc (x0 :: x1 :: x2 :: x3 :: x4 :: x5 :: x6 :: x7 :: x8 :: x9 :: x10 :: x11 :: some (.int (ja_I x)) :: r) st := r_iinc F (i := 12) rfl hn hp rfl d hpc k
theorem r_lst12 (F : ja_F C own cc nl rm) {x0 x1 x2 x3 x4 x5 x6 x7 x8 x9 x10 x11 x12 x13 : Option Value} {r : List (Option Value)} {x : Int64} (hn : 12 + 1 < nl) (hp : ja_pre (x0 :: x1 :: x2 :: x3 :: x4 :: x5 :: x6 :: x7 :: x8 :: x9 :: x10 :: x11 :: x12 :: x13 :: r) 12 = true) (d : decode cc pc = .ok (.lstore 12, 2)) {pc' : Nat} (hpc : pc + 2 = pc') (k : ja_W C cells slots lay mem n pc' (x0 :: x1 :: x2 :: x3 :: x4 :: x5 :: x6 :: x7 :: x8 :: x9 :: x10 :: x11 :: some (.long x) :: none :: r) st) : ja_W C cells slots lay mem n pc (x0 :: x1 :: x2 :: x3 :: x4 :: x5 :: x6 :: x7 :: x8 :: x9 :: x10 :: x11 :: x12 :: x13 :: r) (.long x :: st) := r_lstore F hn hp rfl d hpc k
end
