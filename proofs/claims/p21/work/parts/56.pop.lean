theorem r_pop2 {C : ja_C} {own : String} {cc : ByteArray} {nl : Nat} {rm : Room} {cells slots n pc : Nat} {lay : ja_Y} {mem : ja_M} {ls : List (Option Value)} {st : List Value} (F : ja_F C own cc nl rm) {v : Value} (hc : v.category = 2) (d : decode cc pc = .ok (.pop2, 1)) {pc' : Nat} (hpc : pc + 1 = pc') (k : ja_W C cells slots lay mem n pc' ls st) : ja_W C cells slots lay mem n pc ls (v :: st) := by
  subst hpc
  obtain ⟨p, l, e, R, s, m, args, below, meth, c, D, cA, B, nL, Q⟩ := C
  obtain ⟨hnl, hrm, hx, hb, hml, hown, hts, ⟨hK, hAO, hNw⟩, hlk, hB⟩ := F
  subst hnl; subst hrm
  intro H locs lsA hH hS hl
  exact lv_pop2_2 hx hb d hc (k H locs lsA hH hS hl)
