-- contracts
abbrev ja_P : Type := Option Value → ja_Y → ja_M → Nat → Prop
def ja_Qc (B : Nat) (D : va_G) (cA : Nat → ClassId) (post : ja_P) : Array Value → State → Outcome → State → Prop := fun _ st o t => (∃ (v : Option Value) (lay' : ja_Y) (mem' : ja_M) (n' : Nat), o = .returned v ∧ post v lay' mem' n' ∧ ja_H D cA B lay' mem' n' t.heap) ∧ va_F (fun q => B ≤ q) st t
def ja_Pc (B : Nat) (D : va_G) (cA : Nat → ClassId) (av : List Value) (lay : ja_Y) (mem : ja_M) (n : Nat) : Array Value → State → Prop := va_Pc av (fun U => ja_H D cA B lay mem n U.heap ∧ ja_K D cA U ∧ B ≤ U.heap.size)
def ja_ws (y : MethodName) (cc : ByteArray) (nL : Nat) (ret : Option FieldType) : List Cond := Cond.code y cc nL ret :: lw_tbg
/-- the contract of a method: its room, its arguments, the world at its start, what holds at its end -/
def ja_Mt (l : Launch) (D : va_G) (cA : Nat → ClassId) (B : Nat) (y : MethodName) (cc : ByteArray) (nL : Nat) (ret : Option FieldType) (rm : Room) (av : List Value) (lay : ja_Y) (mem : ja_M) (n : Nat) (post : ja_P) : Prop := Met l y (ja_ws y cc nL ret) rm (ja_Pc B D cA av lay mem n) (ja_Qc B D cA post) rm.cells rm.slots (fun q => B ≤ q)
/-- what a walk's end must be -/
def ja_R (C : ja_C) (ret : Option FieldType) (rm : Room) (post : ja_P) : Prop := match C with
  | (p, l, e, R, s, m, args, below, meth, c, D, cA, B, nL, Q) => meth.sig.returnType = ret ∧ Q = MQ below (ja_Qc B D cA post) args s rm.cells rm.slots (fun q => B ≤ q)
/-- the parts of a walk that its calls speak of -/
def ja_G (C : ja_C) (l0 : Launch) (D0 : va_G) (cA0 : Nat → ClassId) (B0 : Nat) : Prop := match C with
  | (p, l, e, R, s, m, args, below, meth, c, D, cA, B, nL, Q) => l = l0 ∧ D = D0 ∧ cA = cA0 ∧ B = B0
theorem ja_enter {l : Launch} {D : va_G} {cA : Nat → ClassId} {B : Nat} {y : MethodName} {cc : ByteArray} {nL : Nat} {ret : Option FieldType} {rm : Room} {av : List Value} {lay : ja_Y} {mem : ja_M} {n : Nat} {post : ja_P} (ls : List (Option Value)) (hy : plainName y.cls = true) (hlen : (lg_sl av).length ≤ nL) (hls : ∀ q ∈ ja_al 0 ls, q ∈ lv_args 0 av)
    (body : ∀ C : ja_C, ja_F C y.cls cc nL rm → ja_R C ret rm post → ja_G C l D cA B → C.2.2.2.2.2.2.2.2.1.name = y.name → ja_W C 0 0 lay mem n 0 ls []) : ja_Mt l D cA B y cc nL ret rm av lay mem n post := by
  refine Met.ofW (cc := cc) (maxL := nL) (ret := ret) hy rfl ?_
  intro p e s m args below meth c s₁ Bd hml hv
  obtain ⟨rfl, hH, hK, hB⟩ := hv
  have hx := Bd.exec
  have hb := Bd.bytes
  have hr := Bd.returns
  have hts0 := atoms_spec (ws := ja_ws y cc nL ret) Bd.pre
  have hts : ∀ w ∈ lw_tbg, w.before av.toArray s = true := fun w hw => hts0 w (List.mem_cons_of_mem _ hw)
  have hown : s.vm.findClass y.cls = some m.cls := findClass_of_methodNamed Bd.named
  have hlocks := Bd.notSynchronized
  have hname : meth.name = y.name := (name_of_methodNamed Bd.named Bd.method).1
  have hl := lv_entry av hlen
  rw [lg_entry_eq]
  generalize (lg_sl av ++ List.replicate (nL - (lg_sl av).length) Slot.unset).toArray = lsA at hl ⊢
  have h := body (p, l, e, rm, s, m, av.toArray, below, meth, c, D, cA, B, nL, MQ below (ja_Qc B D cA post) av.toArray s rm.cells rm.slots (fun q => B ≤ q)) ⟨rfl, rfl, hx, hb, hml, hown, hts, hK, hlocks, hB⟩ ⟨hr, rfl⟩ ⟨rfl, rfl, rfl, rfl⟩ hname
  exact h s.heap [] lsA hH va_S.rf (ja_has_sub hl hls)
theorem lw_good : lw_tbg.all goodWord = true := List.all_eq_true.mpr fun w hw => (List.mem_filter.mp hw).2
theorem ja_goodIn {ws : List Cond} (h : ∀ w ∈ ws, w ∈ lw_tbg) : GoodIn lw_tbg ws := fun w hw => ⟨h w hw, good_of_word (List.all_eq_true.mp lw_good w (h w hw))⟩
/-- a call's words: the link, the callee's code -/
def ja_Cv (own : String) (index : Nat) (y : MethodName) (cc : ByteArray) (nL : Nat) (ret : Option FieldType) (na : Nat) : Prop := Cond.methodLink own index y ∈ lw_tbg ∧ Cond.instanceMethod y ∈ lw_tbg ∧ Cond.selects y.cls y y ∈ lw_tbg ∧ Cond.initialized y.cls ∈ lw_tbg ∧ Cond.code y cc nL ret ∈ lw_tbg ∧ y.cls ≠ "java/lang/invoke/MethodHandle" ∧ y.cls ≠ "java/lang/invoke/VarHandle" ∧ (parseMethodDescriptor y.desc).map (fun d => d.parameters.length) = some na
def ja_Cs (own : String) (index : Nat) (y : MethodName) (cc : ByteArray) (nL : Nat) (ret : Option FieldType) (na : Nat) : Prop := Cond.methodLink own index y ∈ lw_tbg ∧ Cond.static y ∈ lw_tbg ∧ Cond.initialized y.cls ∈ lw_tbg ∧ Cond.code y cc nL ret ∈ lw_tbg ∧ y.cls ≠ "java/lang/invoke/MethodHandle" ∧ y.cls ≠ "java/lang/invoke/VarHandle" ∧ (parseMethodDescriptor y.desc).map (fun d => d.parameters.length) = some na
def ja_Ci (own : String) (index : Nat) (y : MethodName) (cc : ByteArray) (nL : Nat) (na : Nat) : Prop := Cond.methodLink own index y ∈ lw_tbg ∧ Cond.instanceMethod y ∈ lw_tbg ∧ Cond.initialized y.cls ∈ lw_tbg ∧ Cond.code y cc nL none ∈ lw_tbg ∧ y.cls ≠ "java/lang/invoke/MethodHandle" ∧ y.cls ≠ "java/lang/invoke/VarHandle" ∧ (parseMethodDescriptor y.desc).map (fun d => d.parameters.length) = some na ∧ y.name = "<init>"
def ja_CiN (own : String) (index : Nat) (y : MethodName) (cc : ByteArray) (nL : Nat) (na : Nat) : Prop := (∃ host : String, Cond.methodLinkNest own index y host ∈ lw_tbl) ∧ Cond.instanceMethod y ∈ lw_tbg ∧ Cond.initialized y.cls ∈ lw_tbg ∧ Cond.code y cc nL none ∈ lw_tbg ∧ y.cls ≠ "java/lang/invoke/MethodHandle" ∧ y.cls ≠ "java/lang/invoke/VarHandle" ∧ (parseMethodDescriptor y.desc).map (fun d => d.parameters.length) = some na ∧ y.name = "<init>"
theorem ja_blind {B : Nat} {D : va_G} {cA : Nat → ClassId} {av : List Value} {lay : ja_Y} {mem : ja_M} {n : Nat} : FrameBlind (ja_Pc B D cA av lay mem n) := fun a U g mk h => ⟨h.1, h.2.1, ja_K.call g mk a h.2.2.1, h.2.2.2⟩
theorem ja_back {p : Program} {l : Launch} {e : Env} {R : Room} {s : State} {m : MethodId} {args : Array Value} {below : List Frame} {meth : Method} {c : Code} {H : Heap} {locs : List Loc} {cells slots mc ms pc : Nat} {Q : State → Prop} {lsA : Array Slot} {st0 rest : List Value} {a : Array Value} {B : Nat} {D : va_G} {cA : Nat → ClassId} {post : ja_P}
    (hr : va_Run p l e R s m args below meth c H locs cells slots mc ms (F0 m pc lsA st0) rest (ja_Qc B D cA post a) (fun q => B ≤ q)) (hS : va_S (fun q => B ≤ q) s.heap H locs)
    (kk : ∀ (v : Option Value) (lay' : ja_Y) (mem' : ja_M) (n' : Nat) (H1 : Heap) (locs1 : List Loc), post v lay' mem' n' → ja_H D cA B lay' mem' n' H1 → va_S (fun q => B ≤ q) s.heap H1 locs1 → W p l e R s m args below meth c H1 locs1 (cells + mc) (slots + ms) Q (F0 m (pc + 3) lsA (v.toList ++ rest))) : W p l e R s m args below meth c H locs cells slots Q (F0 m pc lsA st0) := by
  intro T hT X
  obtain ⟨v, st₀, t, T', L, h0, X', hL, e1, e2, ⟨⟨v', lay', mem', n', hv, hp, hH⟩, hz, hk⟩, st⟩ := hr T hT X
  cases hv
  rw [h0] at hz hk
  obtain ⟨t2, a1, b1⟩ := kk v lay' mem' n' T'.heap (locs ++ L) hp (by rw [e1]; exact hH)
    ⟨Nat.le_trans hS.1 (by rw [e1]; exact hz), fun q h1 h2 => by rw [e1, hk q (Nat.lt_of_lt_of_le h1 hS.1) h2]; exact hS.2.1 q h1 h2, fun q hq => by
      rcases List.mem_append.mp hq with h | h
      · exact hS.2.2 q h
      · exact hL q h⟩ T' rfl X'
  exact ⟨t2, st t2 a1, b1⟩
section
variable {C : ja_C} {own : String} {cc : ByteArray} {nl : Nat} {rm : Room} {cells slots n : Nat} {lay : ja_Y} {mem : ja_M} {pc : Nat} {ls : List (Option Value)} {st : List Value}
theorem r_callV (F : ja_F C own cc nl rm) {l0 : Launch} {D0 : va_G} {cA0 : Nat → ClassId} {B0 : Nat} (G : ja_G C l0 D0 cA0 B0) {y : MethodName} {cc' : ByteArray} {nL' : Nat} {ret' : Option FieldType} {rm' : Room} {As : List Value} {a index ci na : Nat} {ds : List (Option Value)} {post : ja_P} (hM : ja_Mt l0 D0 cA0 B0 y cc' nL' ret' rm' (.ref a :: As) lay mem n post) (f : ja_Cv own index y cc' nL' ret' na) (hna : As.length = na) (hy : lay a = some (.inl (ci, ds))) (hcl : vwCl[ci]?.map (·.1) = some y.cls) (hR : rm'.frames + 1 ≤ rm.frames ∧ 8 + (nL' + 11) + rm'.locals ≤ rm.locals) (hcs : cells + rm'.cells ≤ rm.cells ∧ slots + rm'.slots ≤ rm.slots) (hst : (st.map fun v => v.category).sum ≤ 8) {st0 : List Value} (he : st0 = As.reverse ++ .ref a :: st) (d : decode cc pc = .ok (.invokevirtual index, 3)) {pc' : Nat} (hpc : pc + 3 = pc')
    (kk : ∀ (v : Option Value) (lay' : ja_Y) (mem' : ja_M) (n' : Nat), post v lay' mem' n' → ja_W C (cells + rm'.cells) (slots + rm'.slots) lay' mem' n' pc' ls (v.toList ++ st)) : ja_W C cells slots lay mem n pc ls st0 := by
  subst hpc
  subst he
  obtain ⟨p, l, e, R, s, m, args, below, meth, c, D, cA, B, nL, Q⟩ := C
  obtain ⟨hnl, hrm, hx, hb, hml, hown, hts, ⟨hK, hAO, hNw⟩, hlk, hB⟩ := F
  obtain ⟨rfl, rfl, rfl, rfl⟩ := G
  subst hnl; subst hrm
  obtain ⟨f1, f2, f3, f4, f5, f6, f7, f8⟩ := f
  intro H locs lsA hH hS hl
  have hat := (hH.2 a _ hy).2.2
  have hP : va_P D vwCl [(a, .inr (ci, ja_fs 0 ds (mem a)))] H := fun q w hq => by
    cases q with
    | zero => cases hq; exact hat
    | succ q => simp at hq
  obtain ⟨r, hr1, hr2⟩ := Option.map_eq_some_iff.mp hcl
  have hrecv := va_recv hK hP hr1 (q0 := 0) rfl
  rw [hr2] at hrecv
  have hG : GoodIn lw_tbg (wsV own index y.cls y (ja_ws y cc' nL' ret')) := ja_goodIn (fun w hw => by
    rcases List.mem_append.mp hw with h | h
    · simp only [List.mem_cons, List.not_mem_nil, or_false] at h
      rcases h with rfl | rfl | rfl | rfl
      · exact f1
      · exact f2
      · exact f3
      · exact f4
    · rcases List.mem_cons.mp h with rfl | h
      · exact f5
      · exact h)
  have cw := cwV (R := R) (s := s) (args := args) (rm := rm') (mc := rm'.cells) (ms := rm'.slots) (ws' := lw_tbg) na hts hG rfl rfl rfl ⟨rfl, f6, f7, f8⟩ hR
  refine ja_back (va_runV (As := As) (rest := st) ⟨hx, hb, hml, hown, hts⟩ hM cw ⟨ja_blind, hrecv, fun U hU hW => ⟨rfl, by rw [hU]; exact hH, ja_K.warm hW ⟨hK, hAO, hNw⟩, by rw [hU]; exact Nat.le_trans hB hS.1⟩⟩ rfl hna hl.1 rfl (lv_room hst) d hcs) hS ?_
  intro v lay' mem' n' H1 locs1 hp hH1 hS1
  exact kk v lay' mem' n' hp H1 locs1 lsA hH1 hS1 hl
theorem r_callS (F : ja_F C own cc nl rm) {l0 : Launch} {D0 : va_G} {cA0 : Nat → ClassId} {B0 : Nat} (G : ja_G C l0 D0 cA0 B0) {y : MethodName} {cc' : ByteArray} {nL' : Nat} {ret' : Option FieldType} {rm' : Room} {As : List Value} {index na : Nat} {post : ja_P} (hM : ja_Mt l0 D0 cA0 B0 y cc' nL' ret' rm' As lay mem n post) (f : ja_Cs own index y cc' nL' ret' na) (hna : As.length = na) (hR : rm'.frames + 1 ≤ rm.frames ∧ 8 + (nL' + 11) + rm'.locals ≤ rm.locals) (hcs : cells + rm'.cells ≤ rm.cells ∧ slots + rm'.slots ≤ rm.slots) (hst : (st.map fun v => v.category).sum ≤ 8) {st0 : List Value} (he : st0 = As.reverse ++ st) (d : decode cc pc = .ok (.invokestatic index, 3)) {pc' : Nat} (hpc : pc + 3 = pc')
    (kk : ∀ (v : Option Value) (lay' : ja_Y) (mem' : ja_M) (n' : Nat), post v lay' mem' n' → ja_W C (cells + rm'.cells) (slots + rm'.slots) lay' mem' n' pc' ls (v.toList ++ st)) : ja_W C cells slots lay mem n pc ls st0 := by
  subst hpc
  subst he
  obtain ⟨p, l, e, R, s, m, args, below, meth, c, D, cA, B, nL, Q⟩ := C
  obtain ⟨hnl, hrm, hx, hb, hml, hown, hts, ⟨hK, hAO, hNw⟩, hlk, hB⟩ := F
  obtain ⟨rfl, rfl, rfl, rfl⟩ := G
  subst hnl; subst hrm
  obtain ⟨f1, f2, f4, f5, f6, f7, f8⟩ := f
  intro H locs lsA hH hS hl
  have hG : GoodIn lw_tbg (va_wsS own index y (ja_ws y cc' nL' ret')) := ja_goodIn (fun w hw => by
    rcases List.mem_append.mp hw with h | h
    · simp only [List.mem_cons, List.not_mem_nil, or_false] at h
      rcases h with rfl | rfl | rfl
      · exact f1
      · exact f2
      · exact f4
    · rcases List.mem_cons.mp h with rfl | h
      · exact f5
      · exact h)
  have cw := va_cwS (R := R) (s := s) (args := args) (rm := rm') (mc := rm'.cells) (ms := rm'.slots) (ws' := lw_tbg) na hts hG rfl rfl rfl ⟨f6, f7, f8⟩ hR
  refine ja_back (va_runS (As := As) (rest := st) ⟨hx, hb, hml, hown, hts⟩ hM cw ⟨ja_blind, fun U hU hW => ⟨rfl, by rw [hU]; exact hH, ja_K.warm hW ⟨hK, hAO, hNw⟩, by rw [hU]; exact Nat.le_trans hB hS.1⟩⟩ rfl hna hl.1 rfl (lv_room hst) d hcs) hS ?_
  intro v lay' mem' n' H1 locs1 hp hH1 hS1
  exact kk v lay' mem' n' hp H1 locs1 lsA hH1 hS1 hl
theorem r_callI (F : ja_F C own cc nl rm) {l0 : Launch} {D0 : va_G} {cA0 : Nat → ClassId} {B0 : Nat} (G : ja_G C l0 D0 cA0 B0) {y : MethodName} {cc' : ByteArray} {nL' : Nat} {rm' : Room} {As : List Value} {a index na : Nat} {post : ja_P} (hM : ja_Mt l0 D0 cA0 B0 y cc' nL' none rm' (.ref a :: As) lay mem n post) (f : ja_Ci own index y cc' nL' na) (hna : As.length = na) (hR : rm'.frames + 1 ≤ rm.frames ∧ 8 + (nL' + 11) + rm'.locals ≤ rm.locals) (hcs : cells + rm'.cells ≤ rm.cells ∧ slots + rm'.slots ≤ rm.slots) (hst : (st.map fun v => v.category).sum ≤ 8) {st0 : List Value} (he : st0 = As.reverse ++ .ref a :: st) (d : decode cc pc = .ok (.invokespecial index, 3)) {pc' : Nat} (hpc : pc + 3 = pc')
    (kk : ∀ (v : Option Value) (lay' : ja_Y) (mem' : ja_M) (n' : Nat), post v lay' mem' n' → ja_W C (cells + rm'.cells) (slots + rm'.slots) lay' mem' n' pc' ls (v.toList ++ st)) : ja_W C cells slots lay mem n pc ls st0 := by
  subst hpc
  subst he
  obtain ⟨p, l, e, R, s, m, args, below, meth, c, D, cA, B, nL, Q⟩ := C
  obtain ⟨hnl, hrm, hx, hb, hml, hown, hts, ⟨hK, hAO, hNw⟩, hlk, hB⟩ := F
  obtain ⟨rfl, rfl, rfl, rfl⟩ := G
  subst hnl; subst hrm
  obtain ⟨f1, f2, f4, f5, f6, f7, f8, f9⟩ := f
  intro H locs lsA hH hS hl
  have hG : GoodIn lw_tbg (ja_ws y cc' nL' none) := ja_goodIn (fun w hw => by
    rcases List.mem_cons.mp hw with rfl | h
    · exact f5
    · exact h)
  have cw := cwI (own := own) (index := index) (R := R) (s := s) (args := args) (rm := rm') (mc := rm'.cells) (ms := rm'.slots) (ws' := lw_tbg) na hts hG rfl rfl rfl (hts _ f4) (hts _ f1) (hts _ f2) f9 ⟨f6, f7, f8⟩ hR
  refine ja_back (va_runI (As := As) (rest := st) ⟨hx, hb, hml, hown, hts⟩ hM cw ⟨ja_blind, fun U hU hW => ⟨rfl, by rw [hU]; exact hH, ja_K.warm hW ⟨hK, hAO, hNw⟩, by rw [hU]; exact Nat.le_trans hB hS.1⟩⟩ rfl hna hl.1 rfl (lv_room hst) d hcs) hS ?_
  intro v lay' mem' n' H1 locs1 hp hH1 hS1
  exact kk v lay' mem' n' hp H1 locs1 lsA hH1 hS1 hl
theorem r_callIN (F : ja_F C own cc nl rm) {l0 : Launch} {D0 : va_G} {cA0 : Nat → ClassId} {B0 : Nat} (G : ja_G C l0 D0 cA0 B0) {y : MethodName} {cc' : ByteArray} {nL' : Nat} {rm' : Room} {As : List Value} {a index na : Nat} {post : ja_P} (hM : ja_Mt l0 D0 cA0 B0 y cc' nL' none rm' (.ref a :: As) lay mem n post) (f : ja_CiN own index y cc' nL' na) (hna : As.length = na) (hR : rm'.frames + 1 ≤ rm.frames ∧ 8 + (nL' + 11) + rm'.locals ≤ rm.locals) (hcs : cells + rm'.cells ≤ rm.cells ∧ slots + rm'.slots ≤ rm.slots) (hst : (st.map fun v => v.category).sum ≤ 8) {st0 : List Value} (he : st0 = As.reverse ++ .ref a :: st) (d : decode cc pc = .ok (.invokespecial index, 3)) {pc' : Nat} (hpc : pc + 3 = pc')
    (kk : ∀ (v : Option Value) (lay' : ja_Y) (mem' : ja_M) (n' : Nat), post v lay' mem' n' → ja_W C (cells + rm'.cells) (slots + rm'.slots) lay' mem' n' pc' ls (v.toList ++ st)) : ja_W C cells slots lay mem n pc ls st0 := by
  subst hpc
  subst he
  obtain ⟨p, l, e, R, s, m, args, below, meth, c, D, cA, B, nL, Q⟩ := C
  obtain ⟨hnl, hrm, hx, hb, hml, hown, hts, ⟨hK, hAO, hNw⟩, hlk, hB⟩ := F
  obtain ⟨rfl, rfl, rfl, rfl⟩ := G
  subst hnl; subst hrm
  obtain ⟨⟨host, f1⟩, f2, f4, f5, f6, f7, f8, f9⟩ := f
  intro H locs lsA hH hS hl
  have hG : GoodIn lw_tbg (ja_ws y cc' nL' none) := ja_goodIn (fun w hw => by
    rcases List.mem_cons.mp hw with rfl | h
    · exact f5
    · exact h)
  have cw := va_cnB (own := own) (host := host) (index := index) (R := R) (s := s) (args := args) (rm := rm') (mc := rm'.cells) (ms := rm'.slots) (ws' := lw_tbg) na hts hG rfl rfl rfl (hNw _ f1 rfl) (hts _ f4) ⟨f6, f7, f8⟩ hR
  refine ja_back (va_runIN (As := As) (rest := st) ⟨hx, hb, hml, hown, hts⟩ hM ⟨cw, f9, hts _ f2⟩ ⟨ja_blind, fun U hU hW => ⟨rfl, by rw [hU]; exact hH, ja_K.warm hW ⟨hK, hAO, hNw⟩, by rw [hU]; exact Nat.le_trans hB hS.1⟩⟩ rfl hna hl.1 rfl (lv_room hst) d hcs) hS ?_
  intro v lay' mem' n' H1 locs1 hp hH1 hS1
  exact kk v lay' mem' n' hp H1 locs1 lsA hH1 hS1 hl
-- Math
theorem ja_ite {a b : Int} {c : Prop} [Decidable c] : (if c then ja_I a else ja_I b) = ja_I (if c then a else b) := by split <;> rfl
theorem r_mmax (F : ja_F C own cc nl rm) {a b : Int} {index : Nat} (ha : ja_in a) (hb1 : ja_in b) (hw : Cond.methodLink own index Lib.Math.max.name ∈ lw_tbg) (hst : (st.map fun v => v.category).sum ≤ 8) (hfr : 1 ≤ rm.frames) (hlo : 21 ≤ rm.locals) (hcs : cells ≤ rm.cells ∧ slots ≤ rm.slots) (d : decode cc pc = .ok (.invokestatic index, 3)) {pc' : Nat} (hpc : pc + 3 = pc') (k : ja_W C cells slots lay mem n pc' ls (.int (ja_I (if a < b then b else a)) :: st)) : ja_W C cells slots lay mem n pc ls (.int (ja_I b) :: .int (ja_I a) :: st) := by
  subst hpc
  obtain ⟨p, l, e, R, s, m, args, below, meth, c, D, cA, B, nL, Q⟩ := C
  obtain ⟨hnl, hrm, hx, hb, hml, hown, hts, ⟨hK, hAO, hNw⟩, hlk, hB⟩ := F
  subst hnl; subst hrm
  intro H locs lsA hH hS hl
  refine va_mmax hx hb (by rw [hml]; exact hl.1.symm) hown (hts _ hw) (hts _ (by decide +kernel)) (hts _ (by decide +kernel)) (hts _ (by decide +kernel)) hfr (by omega) hcs.1 hcs.2 d ?_
  have h := k H locs lsA hH hS hl
  by_cases hc : a < b
  · rw [if_pos ((ja_lt ha hb1).mpr hc)]
    rw [if_pos hc] at h
    exact h
  · rw [if_neg (fun q => hc ((ja_lt ha hb1).mp q))]
    rw [if_neg hc] at h
    exact h
theorem r_mmin (F : ja_F C own cc nl rm) {a b : Int} {index : Nat} (ha : ja_in a) (hb1 : ja_in b) (hw : Cond.methodLink own index Lib.Math.min.name ∈ lw_tbg) (hst : (st.map fun v => v.category).sum ≤ 8) (hfr : 1 ≤ rm.frames) (hlo : 21 ≤ rm.locals) (hcs : cells ≤ rm.cells ∧ slots ≤ rm.slots) (d : decode cc pc = .ok (.invokestatic index, 3)) {pc' : Nat} (hpc : pc + 3 = pc') (k : ja_W C cells slots lay mem n pc' ls (.int (ja_I (if b < a then b else a)) :: st)) : ja_W C cells slots lay mem n pc ls (.int (ja_I b) :: .int (ja_I a) :: st) := by
  subst hpc
  obtain ⟨p, l, e, R, s, m, args, below, meth, c, D, cA, B, nL, Q⟩ := C
  obtain ⟨hnl, hrm, hx, hb, hml, hown, hts, ⟨hK, hAO, hNw⟩, hlk, hB⟩ := F
  subst hnl; subst hrm
  intro H locs lsA hH hS hl
  refine va_mmin hx hb (by rw [hml]; exact hl.1.symm) hown (hts _ hw) (hts _ (by decide +kernel)) (hts _ (by decide +kernel)) (hts _ (by decide +kernel)) hfr (by omega) hcs.1 hcs.2 d ?_
  have h := k H locs lsA hH hS hl
  by_cases hc : b < a
  · rw [if_pos ((ja_lt hb1 ha).mpr hc)]
    rw [if_pos hc] at h
    exact h
  · rw [if_neg (fun q => hc ((ja_lt hb1 ha).mp q))]
    rw [if_neg hc] at h
    exact h
theorem r_mabs (F : ja_F C own cc nl rm) {a : Int} {index : Nat} (ha : ja_in a) (hw : Cond.methodLink own index Lib.Math.abs.name ∈ lw_tbg) (hst : (st.map fun v => v.category).sum ≤ 8) (hfr : 1 ≤ rm.frames) (hlo : 21 ≤ rm.locals) (hcs : cells ≤ rm.cells ∧ slots ≤ rm.slots) (d : decode cc pc = .ok (.invokestatic index, 3)) {pc' : Nat} (hpc : pc + 3 = pc') (k : ja_W C cells slots lay mem n pc' ls (.int (ja_I (if 0 ≤ a then a else 0 - a)) :: st)) : ja_W C cells slots lay mem n pc ls (.int (ja_I a) :: st) := by
  subst hpc
  obtain ⟨p, l, e, R, s, m, args, below, meth, c, D, cA, B, nL, Q⟩ := C
  obtain ⟨hnl, hrm, hx, hb, hml, hown, hts, ⟨hK, hAO, hNw⟩, hlk, hB⟩ := F
  subst hnl; subst hrm
  intro H locs lsA hH hS hl
  refine va_mabs hx hb (by rw [hml]; exact hl.1.symm) hown (hts _ hw) (hts _ (by decide +kernel)) (hts _ (by decide +kernel)) (hts _ (by decide +kernel)) hfr (by omega) hcs.1 hcs.2 d ?_
  have h := k H locs lsA hH hS hl
  by_cases hc : 0 ≤ a
  · rw [if_pos (show (0 : Int32) ≤ ja_I a from (ja_le ja_in0 ha).mpr hc)]
    rw [if_pos hc] at h
    exact h
  · rw [if_neg (show ¬ (0 : Int32) ≤ ja_I a from fun q => hc ((ja_le ja_in0 ha).mp q)), ja_zero, ja_sub]
    rw [if_neg hc] at h
    exact h
-- ends
theorem r_vret (F : ja_F C own cc nl rm) {post : ja_P} (Rt : ja_R C none rm post) (d : decode cc pc = .ok (.return_, 1)) (hcs : cells ≤ rm.cells ∧ slots ≤ rm.slots) (hp : post none lay mem n) : ja_W C cells slots lay mem n pc ls [] := by
  obtain ⟨p, l, e, R, s, m, args, below, meth, c, D, cA, B, nL, Q⟩ := C
  obtain ⟨hnl, hrm, hx, hb, hml, hown, hts, ⟨hK, hAO, hNw⟩, hlk, hB⟩ := F
  obtain ⟨hr, hQ⟩ := Rt
  subst hnl; subst hrm; subst hQ
  intro H locs lsA hH hS hl
  refine W.widen hcs.1 hcs.2 ?_
  exact W.vret hx hb hr (fun t ht hW => ⟨⟨none, lay, mem, n, rfl, hp, by rw [ht]; exact hH⟩, hS.F ht⟩) hS.2.2 d hlk
theorem r_iret (F : ja_F C own cc nl rm) {post : ja_P} (Rt : ja_R C (some .int) rm post) {z : Int} (d : decode cc pc = .ok (.ireturn, 1)) (hcs : cells ≤ rm.cells ∧ slots ≤ rm.slots) (hp : post (some (.int (ja_I z))) lay mem n) : ja_W C cells slots lay mem n pc ls [.int (ja_I z)] := by
  obtain ⟨p, l, e, R, s, m, args, below, meth, c, D, cA, B, nL, Q⟩ := C
  obtain ⟨hnl, hrm, hx, hb, hml, hown, hts, ⟨hK, hAO, hNw⟩, hlk, hB⟩ := F
  obtain ⟨hr, hQ⟩ := Rt
  subst hnl; subst hrm; subst hQ
  intro H locs lsA hH hS hl
  refine W.widen hcs.1 hcs.2 ?_
  exact W.iret hx hb hr (fun t ht hW => ⟨⟨_, lay, mem, n, rfl, hp, by rw [ht]; exact hH⟩, hS.F ht⟩) hS.2.2 d hlk
theorem r_zret (F : ja_F C own cc nl rm) {post : ja_P} (Rt : ja_R C (some .boolean) rm post) {z : Int} (hz : z = 0 ∨ z = 1) (d : decode cc pc = .ok (.ireturn, 1)) (hcs : cells ≤ rm.cells ∧ slots ≤ rm.slots) (hp : post (some (.int (ja_I z))) lay mem n) : ja_W C cells slots lay mem n pc ls [.int (ja_I z)] := by
  obtain ⟨p, l, e, R, s, m, args, below, meth, c, D, cA, B, nL, Q⟩ := C
  obtain ⟨hnl, hrm, hx, hb, hml, hown, hts, ⟨hK, hAO, hNw⟩, hlk, hB⟩ := F
  obtain ⟨hr, hQ⟩ := Rt
  subst hnl; subst hrm; subst hQ
  intro H locs lsA hH hS hl
  refine W.widen hcs.1 hcs.2 ?_
  exact W.zret hx hb hr (by rcases hz with rfl | rfl <;> decide) (fun t ht hW => ⟨⟨_, lay, mem, n, rfl, hp, by rw [ht]; exact hH⟩, hS.F ht⟩) hS.2.2 d hlk
theorem r_lret (F : ja_F C own cc nl rm) {post : ja_P} (Rt : ja_R C (some .long) rm post) {z : Int64} (d : decode cc pc = .ok (.lreturn, 1)) (hcs : cells ≤ rm.cells ∧ slots ≤ rm.slots) (hp : post (some (.long z)) lay mem n) : ja_W C cells slots lay mem n pc ls [.long z] := by
  obtain ⟨p, l, e, R, s, m, args, below, meth, c, D, cA, B, nL, Q⟩ := C
  obtain ⟨hnl, hrm, hx, hb, hml, hown, hts, ⟨hK, hAO, hNw⟩, hlk, hB⟩ := F
  obtain ⟨hr, hQ⟩ := Rt
  subst hnl; subst hrm; subst hQ
  intro H locs lsA hH hS hl
  refine W.widen hcs.1 hcs.2 ?_
  exact W.lret hx hb hr (fun t ht hW => ⟨⟨_, lay, mem, n, rfl, hp, by rw [ht]; exact hH⟩, hS.F ht⟩) hS.2.2 d hlk
end
