-- SHIFTS, MASKS, INT CONSTANTS; A METHOD THAT READS THE LAW'S SCRIPT
theorem J_smod : ∀ k : Fin 32, ((ja_I (k.val : Int) &&& 31).toBitVec.smod 32).toNat = k.val := by decide +kernel
theorem J_shr32 {a b p : Int} {k : Nat} (ha : 0 ≤ a ∧ a < 2147483648) (hb : b = (k : Int)) (hk : k < 32) (hp : ((2 ^ k : Nat) : Int) = p) : ja_I a >>> (ja_I b &&& 31) = ja_I (a / p) := by
  subst hb
  have hd : 0 ≤ a / p ∧ a / p ≤ a := ⟨Int.ediv_nonneg ha.1 (by rw [← hp]; exact Int.natCast_nonneg _), Int.ediv_le_self _ ha.1⟩
  have e : (ja_I a >>> (ja_I (k : Int) &&& 31)).toInt = a / p := by
    have e1 : (ja_I a >>> (ja_I (k : Int) &&& 31)).toBitVec = (ja_I a).toBitVec.sshiftRight' ((ja_I (k : Int) &&& 31).toBitVec.smod 32) := rfl
    show (ja_I a >>> (ja_I (k : Int) &&& 31)).toBitVec.toInt = _
    rw [e1, BitVec.toInt_sshiftRight', show ((ja_I (k : Int) &&& 31).toBitVec.smod 32).toNat = k from J_smod ⟨k, hk⟩]
    rw [Int.shiftRight_eq_div_pow, hp]
    have : (ja_I a).toBitVec.toInt = a := ja_toInt ⟨by omega, by omega⟩
    rw [this]
  rw [← Int32.toInt_inj, e, ja_toInt ⟨by omega, by omega⟩]
theorem J_and7 (x : Int32) : 0 ≤ (x &&& ja_I 7).toInt ∧ (x &&& ja_I 7).toInt ≤ 7 := by
  have h : (x &&& ja_I 7).toInt = ((x.toBitVec &&& 7#32).toNat : Int) := by
    have h1 : (x &&& ja_I 7).toBitVec = x.toBitVec &&& 7#32 := by rw [Int32.toBitVec_and]; rfl
    show (x &&& ja_I 7).toBitVec.toInt = _
    rw [h1, BitVec.toInt_eq_toNat_of_lt]
    rw [BitVec.toNat_and]
    have := @Nat.and_le_right x.toBitVec.toNat (7#32).toNat
    have e : (7#32).toNat = 7 := rfl
    omega
  rw [h, BitVec.toNat_and]
  have := @Nat.and_le_right x.toBitVec.toNat (7#32).toNat
  have e : (7#32).toNat = 7 := rfl
  omega
theorem J_andM (x : Int32) : 0 ≤ (x &&& ja_I 2147483647).toInt ∧ (x &&& ja_I 2147483647).toInt ≤ 2147483647 := by
  have h : (x &&& ja_I 2147483647).toInt = ((x.toBitVec &&& 2147483647#32).toNat : Int) := by
    have h1 : (x &&& ja_I 2147483647).toBitVec = x.toBitVec &&& 2147483647#32 := by rw [Int32.toBitVec_and]; rfl
    show (x &&& ja_I 2147483647).toBitVec.toInt = _
    rw [h1, BitVec.toInt_eq_toNat_of_lt]
    rw [BitVec.toNat_and]
    have := @Nat.and_le_right x.toBitVec.toNat (2147483647#32).toNat
    have e : (2147483647#32).toNat = 2147483647 := rfl
    omega
  rw [h, BitVec.toNat_and]
  have := @Nat.and_le_right x.toBitVec.toNat (2147483647#32).toNat
  have e : (2147483647#32).toNat = 2147483647 := rfl
  omega
section
variable {C : ja_C} {own : String} {cc : ByteArray} {nl : Nat} {rm : Room} {cells slots n : Nat} {lay : ja_Y} {mem : ja_M} {pc : Nat} {ls : List (Option Value)} {st : List Value}
theorem r_ishr (F : ja_F C own cc nl rm) {a b : Int32} {z : Int} (hz : a >>> (b &&& 31) = ja_I z) (d : decode cc pc = .ok (.ishr, 1)) {pc' : Nat} (hpc : pc + 1 = pc') (k : ja_W C cells slots lay mem n pc' ls (.int (ja_I z) :: st)) : ja_W C cells slots lay mem n pc ls (.int b :: .int a :: st) := by
  subst hpc
  obtain ⟨p, l, e, R, s, m, args, below, meth, c, D, cA, B, nL, Q⟩ := C
  obtain ⟨hnl, hrm, hx, hb, hml, hown, hts, ⟨hK, hAO, hNw⟩, hlk, hB⟩ := F
  subst hnl; subst hrm
  intro H locs lsA hH hS hl
  exact lv_ishr hx hb d (by rw [hz]; exact (k H locs lsA hH hS hl))
theorem r_ldc (F : ja_F C own cc nl rm) {index : Nat} {z : Int} {v : Int32} (hv : v = ja_I z) (hw : Cond.constant own index v ∈ lw_tbg) (d : decode cc pc = .ok (.ldc index, 2)) {pc' : Nat} (hpc : pc + 2 = pc') (k : ja_W C cells slots lay mem n pc' ls (.int (ja_I z) :: st)) : ja_W C cells slots lay mem n pc ls st := by
  subst hpc; subst hv
  obtain ⟨p, l, e, R, s, m, args, below, meth, c, D, cA, B, nL, Q⟩ := C
  obtain ⟨hnl, hrm, hx, hb, hml, hown, hts, ⟨hK, hAO, hNw⟩, hlk, hB⟩ := F
  subst hnl; subst hrm
  intro H locs lsA hH hS hl
  exact lv_ldc hx hb hown (hts _ hw) d (k H locs lsA hH hS hl)
/-- two equal longs -/
theorem r_leq (F : ja_F C own cc nl rm) {a b : Int64} (h : a = b) (d : decode cc pc = .ok (.lcmp, 1)) {pc' : Nat} (hpc : pc + 1 = pc') (k : ja_W C cells slots lay mem n pc' ls (.int (ja_I 0) :: st)) : ja_W C cells slots lay mem n pc ls (.long b :: .long a :: st) := r_lcmp F d hpc (r_eqi (by rw [h, ja_lcmp0]; exact congrArg ja_I (ja_lc_0.mpr rfl)) k)
/-- two equal numbers: the branch isn't taken -/
theorem r_nesame (F : ja_F C own cc nl rm) {a b : Int} (h : a = b) {off : Int} {tgt : Nat} (d : decode cc pc = .ok (.if_icmp .ne off, 3)) {pc' : Nat} (hpc : pc + 3 = pc') (ht : (pc : Int) + off = (tgt : Int)) (k : ja_W C cells slots lay mem n pc' ls st) : ja_W C cells slots lay mem n pc ls (.int (ja_I b) :: .int (ja_I a) :: st) := by
  subst hpc
  obtain ⟨p, l, e, R, s, m, args, below, meth, c, D, cA, B, nL, Q⟩ := C
  obtain ⟨hnl, hrm, hx, hb, hml, hown, hts, ⟨hK, hAO, hNw⟩, hlk, hB⟩ := F
  subst hnl; subst hrm
  intro H locs lsA hH hS hl
  exact lv_icmp_ne hx hb d ht (fun q => absurd (by rw [h]) q) (fun _ => k H locs lsA hH hS hl)
end
def ja_PcX (B : Nat) (D : va_G) (cA : Nat → ClassId) (av : List Value) (lay : ja_Y) (mem : ja_M) (n b L : Nat) (xs : Nat → Int32) : Array Value → State → Prop := va_Pc av (fun U => (ja_H D cA B lay mem n U.heap ∧ ja_K D cA U ∧ B ≤ U.heap.size) ∧ va_X b L xs U U.heap ∧ b < U.heap.size ∧ b < B)
def ja_MtX (l : Launch) (D : va_G) (cA : Nat → ClassId) (B : Nat) (y : MethodName) (cc : ByteArray) (nL : Nat) (ret : Option FieldType) (rm : Room) (av : List Value) (lay : ja_Y) (mem : ja_M) (n b L : Nat) (xs : Nat → Int32) (post : ja_P) : Prop := Met l y (ja_ws y cc nL ret) rm (ja_PcX B D cA av lay mem n b L xs) (ja_Qc B D cA post) rm.cells rm.slots (fun q => B ≤ q)
theorem ja_enterX {l : Launch} {D : va_G} {cA : Nat → ClassId} {B : Nat} {y : MethodName} {cc : ByteArray} {nL : Nat} {ret : Option FieldType} {rm : Room} {av : List Value} {lay : ja_Y} {mem : ja_M} {n b L : Nat} {xs : Nat → Int32} {post : ja_P} (ls : List (Option Value)) (hy : plainName y.cls = true) (hlen : (lg_sl av).length ≤ nL) (hls : ∀ q ∈ ja_al 0 ls, q ∈ lv_args 0 av)
    (body : ∀ C : ja_C, ja_F C y.cls cc nL rm → ja_R C ret rm post → ja_G C l D cA B → ja_X C b L xs → ja_W C 0 0 lay mem n 0 ls []) : ja_MtX l D cA B y cc nL ret rm av lay mem n b L xs post := by
  refine Met.ofW (cc := cc) (maxL := nL) (ret := ret) hy rfl ?_
  intro p e s m args below meth c s₁ Bd hml hv
  obtain ⟨rfl, ⟨hH, hK, hB⟩, hX, hbl, hbB⟩ := hv
  have hx := Bd.exec
  have hb := Bd.bytes
  have hr := Bd.returns
  have hts0 := atoms_spec (ws := ja_ws y cc nL ret) Bd.pre
  have hts : ∀ w ∈ lw_tbg, w.before av.toArray s = true := fun w hw => hts0 w (List.mem_cons_of_mem _ hw)
  have hown : s.vm.findClass y.cls = some m.cls := findClass_of_methodNamed Bd.named
  have hlocks := Bd.notSynchronized
  have hl := lv_entry av hlen
  rw [lg_entry_eq]
  generalize (lg_sl av ++ List.replicate (nL - (lg_sl av).length) Slot.unset).toArray = lsA at hl ⊢
  have h := body (p, l, e, rm, s, m, av.toArray, below, meth, c, D, cA, B, nL, MQ below (ja_Qc B D cA post) av.toArray s rm.cells rm.slots (fun q => B ≤ q)) ⟨rfl, rfl, hx, hb, hml, hown, hts, hK, hlocks, hB⟩ ⟨hr, rfl⟩ ⟨rfl, rfl, rfl, rfl⟩ ⟨hX, hbl, hbB⟩
  exact h s.heap [] lsA hH va_S.rf (ja_has_sub hl hls)
theorem ja_blindX {B : Nat} {D : va_G} {cA : Nat → ClassId} {av : List Value} {lay : ja_Y} {mem : ja_M} {n b L : Nat} {xs : Nat → Int32} : FrameBlind (ja_PcX B D cA av lay mem n b L xs) := fun a U g mk h => ⟨h.1, ⟨h.2.1.1, ja_K.call g mk a h.2.1.2.1, h.2.1.2.2⟩, va_X.moved (u := U) (U := U.calling g mk a) (Vm.Alike.refl U.vm) h.2.2.1, h.2.2.2⟩
section
variable {C : ja_C} {own : String} {cc : ByteArray} {nl : Nat} {rm : Room} {cells slots n : Nat} {lay : ja_Y} {mem : ja_M} {pc : Nat} {ls : List (Option Value)} {st : List Value}
theorem r_callSX (F : ja_F C own cc nl rm) {l0 : Launch} {D0 : va_G} {cA0 : Nat → ClassId} {B0 : Nat} (G : ja_G C l0 D0 cA0 B0) {b L : Nat} {xs : Nat → Int32} (X : ja_X C b L xs) {y : MethodName} {cc' : ByteArray} {nL' : Nat} {ret' : Option FieldType} {rm' : Room} {As : List Value} {index na : Nat} {post : ja_P} (hM : ja_MtX l0 D0 cA0 B0 y cc' nL' ret' rm' As lay mem n b L xs post) (f : ja_Cs own index y cc' nL' ret' na) (hna : As.length = na) (hR : rm'.frames + 1 ≤ rm.frames ∧ 8 + (nL' + 11) + rm'.locals ≤ rm.locals) (hcs : cells + rm'.cells ≤ rm.cells ∧ slots + rm'.slots ≤ rm.slots) (hst : (st.map fun v => v.category).sum ≤ 8) {st0 : List Value} (he : st0 = As.reverse ++ st) (d : decode cc pc = .ok (.invokestatic index, 3)) {pc' : Nat} (hpc : pc + 3 = pc')
    (kk : ∀ (v : Option Value) (lay' : ja_Y) (mem' : ja_M) (n' : Nat), post v lay' mem' n' → ja_W C (cells + rm'.cells) (slots + rm'.slots) lay' mem' n' pc' ls (v.toList ++ st)) : ja_W C cells slots lay mem n pc ls st0 := by
  subst he; subst hpc
  obtain ⟨p, l, e, R, s, m, args, below, meth, c, D, cA, B, nL, Q⟩ := C
  obtain ⟨hnl, hrm, hx, hb, hml, hown, hts, ⟨hK, hAO, hNw⟩, hlk, hB⟩ := F
  obtain ⟨rfl, rfl, rfl, rfl⟩ := G
  obtain ⟨x1, x2, x3⟩ := X
  subst hnl; subst hrm
  obtain ⟨f1, f2, f4, f5, f6, f7, f8⟩ := f
  intro H locs lsA hH hS hl
  have hG : GoodIn lw_tbg (va_wsS own index y (ja_ws y cc' nL' ret')) := ja_goodIn (fun w hw => by
    rcases List.mem_append.mp hw with h | h
    · simp only [List.mem_cons, List.not_mem_nil, or_false] at h
      rcases h with rfl | rfl | rfl
      · exact f1
      · exact f2
      · exact f4
    · rcases List.mem_cons.mp h with rfl | h
      · exact f5
      · exact h)
  have cw := va_cwS (R := R) (s := s) (args := args) (rm := rm') (mc := rm'.cells) (ms := rm'.slots) (ws' := lw_tbg) na hts hG rfl rfl rfl ⟨f6, f7, f8⟩ hR
  refine ja_back (va_runS (As := As) (rest := st) ⟨hx, hb, hml, hown, hts⟩ hM cw ⟨ja_blindX, fun U hU hW => ⟨rfl, ⟨by rw [hU]; exact hH, ja_K.warm hW ⟨hK, hAO, hNw⟩, by rw [hU]; exact Nat.le_trans hB hS.1⟩, by rw [hU]; exact va_X.moved hW.alike (va_X.kept x1 (hS.2.1 b x2 (Nat.not_le.mpr x3))), by rw [hU]; exact Nat.lt_of_lt_of_le x2 hS.1, x3⟩⟩ rfl hna hl.1 rfl (lv_room hst) d hcs) hS ?_
  intro v lay' mem' n' H1 locs1 hp hH1 hS1
  exact kk v lay' mem' n' hp H1 locs1 lsA hH1 hS1 hl
end
