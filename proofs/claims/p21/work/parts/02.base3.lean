/-- what the tables say of a field of class ci, place k, as class own links it at index -/
def ja_Fd (own : String) (index ci k : Nat) (ty : FieldType) (fin : Bool) : Prop := ∃ (Cn : String) (T : u_T) (N : Nat) (ty0 : Nat → FieldType), vwCl[ci]? = some (Cn, T, N) ∧ k < N ∧ (∀ w ∈ u_ws Cn T N, w ∈ lw_tbg) ∧ Cond.fieldLink own index Cn (T k).2.1 (T k).2.2.1 ∈ lw_tbg ∧ (T k).1 = Cn ∧ (∀ k, k < N → parseFieldDescriptor (T k).2.2.1 = some (ty0 k)) ∧ (∀ a, a < N → ∀ b, b < N → a ≠ b → (T a).2.1 ≠ (T b).2.1) ∧ (T k).2.2.2 = fin ∧ parseFieldDescriptor (T k).2.2.1 = some ty
def ja_FdN (own : String) (index ci k : Nat) : Prop := ∃ (Cn : String) (T : u_T) (N : Nat) (host : String), vwCl[ci]? = some (Cn, T, N) ∧ k < N ∧ (∀ w ∈ u_ws Cn T N, w ∈ lw_tbg) ∧ Cond.fieldLinkNest own index Cn (T k).2.1 (T k).2.2.1 host ∈ lw_tbl ∧ (T k).1 = Cn
theorem va_at.obj {D : va_G} {cl : List vw_C} {a ci : Nat} {fs : List Value} {H : Heap} {r : vw_C} (h : va_at D cl (a, .inr (ci, fs)) H) (hc : cl[ci]? = some r) : t_OB a (D.1 ci) r.2.2 (D.2 ci) H (vp_V fs) := by
  obtain ⟨r', h1, h2⟩ := h
  have : r' = r := Option.some.inj (h1.symm.trans hc)
  subst this
  exact h2
section
variable {C : ja_C} {own : String} {cc : ByteArray} {nl : Nat} {rm : Room} {cells slots n : Nat} {lay : ja_Y} {mem : ja_M} {pc : Nat} {ls : List (Option Value)} {st : List Value}
theorem r_getV (F : ja_F C own cc nl rm) {a ci k index : Nat} {ty : FieldType} {fin : Bool} {ds : List (Option Value)} {dv : Option Value} (f : ja_Fd own index ci k ty fin) (hy : lay a = some (.inl (ci, ds))) (hd : ds[k]? = some dv) (d : decode cc pc = .ok (.getfield index, 3)) {pc' : Nat} (hpc : pc + 3 = pc') (kk : ja_W C cells slots lay mem n pc' ls (ja_dv dv (mem a k) :: st)) : ja_W C cells slots lay mem n pc ls (.ref a :: st) := by
  subst hpc
  obtain ⟨p, l, e, R, s, m, args, below, meth, c, D, cA, B, nL, Q⟩ := C
  obtain ⟨hnl, hrm, hx, hb, hml, hown, hts, ⟨hK, hAO, hNw⟩, hlk, hB⟩ := F
  subst hnl; subst hrm
  obtain ⟨Cn, T, N, ty0, hc, hk, hin, hlink, hsm, hty, hnm, hfin, hpd⟩ := f
  intro H locs lsA hH hS hl
  have hat := (hH.2 a _ hy).2.2
  have hP : va_P D vwCl [(a, .inr (ci, ja_fs 0 ds (mem a)))] H := fun q w hq => by
    cases q with
    | zero => cases hq; exact hat
    | succ q => simp at hq
  exact va_get hx hb hts hin hown hK hP 0 rfl hc k hk (hts _ hlink) (fun x h => by rw [hsm] at h; exact h) (ja_fs_get0 hd) d (kk H locs lsA hH hS hl)
theorem r_getVN (F : ja_F C own cc nl rm) {a ci k index : Nat} {ds : List (Option Value)} {dv : Option Value} (f : ja_FdN own index ci k) (hy : lay a = some (.inl (ci, ds))) (hd : ds[k]? = some dv) (d : decode cc pc = .ok (.getfield index, 3)) {pc' : Nat} (hpc : pc + 3 = pc') (kk : ja_W C cells slots lay mem n pc' ls (ja_dv dv (mem a k) :: st)) : ja_W C cells slots lay mem n pc ls (.ref a :: st) := by
  subst hpc
  obtain ⟨p, l, e, R, s, m, args, below, meth, c, D, cA, B, nL, Q⟩ := C
  obtain ⟨hnl, hrm, hx, hb, hml, hown, hts, ⟨hK, hAO, hNw⟩, hlk, hB⟩ := F
  subst hnl; subst hrm
  obtain ⟨Cn, T, N, host, hc, hk, hin, hlink, hsm⟩ := f
  intro H locs lsA hH hS hl
  have hat := (hH.2 a _ hy).2.2
  have hP : va_P D vwCl [(a, .inr (ci, ja_fs 0 ds (mem a)))] H := fun q w hq => by
    cases q with
    | zero => cases hq; exact hat
    | succ q => simp at hq
  exact va_getN hx hb hts hin hown hK hP 0 rfl hc k hk (va_Nw.use rfl (hNw _ hlink rfl)) (fun x h => by rw [hsm] at h; exact h) (ja_fs_get0 hd) d (kk H locs lsA hH hS hl)
theorem r_getRN (F : ja_F C own cc nl rm) {a ci k index : Nat} {ds : List (Option Value)} {v : Value} (f : ja_FdN own index ci k) (hy : lay a = some (.inl (ci, ds))) (hd : ds[k]? = some (some v)) (d : decode cc pc = .ok (.getfield index, 3)) {pc' : Nat} (hpc : pc + 3 = pc') (kk : ja_W C cells slots lay mem n pc' ls (v :: st)) : ja_W C cells slots lay mem n pc ls (.ref a :: st) := r_getVN F f hy hd d hpc kk
theorem r_getI (F : ja_F C own cc nl rm) {a ci k index : Nat} {ty : FieldType} {fin : Bool} {ds : List (Option Value)} (f : ja_Fd own index ci k ty fin) (hy : lay a = some (.inl (ci, ds))) (hd : ds[k]? = some none) (d : decode cc pc = .ok (.getfield index, 3)) {pc' : Nat} (hpc : pc + 3 = pc') (kk : ja_W C cells slots lay mem n pc' ls (.int (ja_I (mem a k)) :: st)) : ja_W C cells slots lay mem n pc ls (.ref a :: st) := r_getV F f hy hd d hpc kk
theorem r_getR (F : ja_F C own cc nl rm) {a ci k index : Nat} {ty : FieldType} {fin : Bool} {ds : List (Option Value)} {v : Value} (f : ja_Fd own index ci k ty fin) (hy : lay a = some (.inl (ci, ds))) (hd : ds[k]? = some (some v)) (d : decode cc pc = .ok (.getfield index, 3)) {pc' : Nat} (hpc : pc + 3 = pc') (kk : ja_W C cells slots lay mem n pc' ls (v :: st)) : ja_W C cells slots lay mem n pc ls (.ref a :: st) := r_getV F f hy hd d hpc kk
/-- the world behind a store into the cell a -/
theorem ja_H.upd {D : va_G} {cA : Nat → ClassId} {B n a : Nat} {lay lay' : ja_Y} {mem mem' : ja_M} {H H1 : Heap} {e' : ja_E} (h : ja_H D cA B lay mem n H) (hz : H1.size = H.size) (oq : ∀ q, q ≠ a → H1[q]? = H[q]?) (hB : B ≤ a ∧ a < n) (he : va_at D vwCl (a, ja_cell cA e' (mem' a)) H1) (hl : ∀ q e, lay' q = some e → (q = a ∧ e = e') ∨ (q ≠ a ∧ lay q = some e)) (hm : ∀ q, q ≠ a → mem' q = mem q) : ja_H D cA B lay' mem' n H1 := by
  refine ⟨hz.trans h.1, fun q e hq => ?_⟩
  rcases hl q e hq with ⟨rfl, rfl⟩ | ⟨h1, h2⟩
  · exact ⟨hB.1, hB.2, he⟩
  · obtain ⟨g1, g2, g3⟩ := h.2 q e h2
    exact ⟨g1, g2, by rw [hm q h1]; exact g3.kept (oq q h1)⟩
theorem ja_same {lay : ja_Y} {a : Nat} {e' : ja_E} (h : lay a = some e') : ∀ q e, lay q = some e → (q = a ∧ e = e') ∨ (q ≠ a ∧ lay q = some e) := by
  intro q e hq
  by_cases hqa : q = a
  · subst hqa
    rw [h] at hq
    exact Or.inl ⟨rfl, (Option.some.inj hq).symm⟩
  · exact Or.inr ⟨hqa, hq⟩
theorem ja_up_o {mem : ja_M} {a j : Nat} {z : Int} : ∀ q, q ≠ a → ja_up mem a j z q = mem q := fun q hq => ja_up_row hq
theorem r_putV (F : ja_F C own cc nl rm) {a ci k index : Nat} {ty : FieldType} {ds : List (Option Value)} {z : Int} (f : ja_Fd own index ci k ty false) (hy : lay a = some (.inl (ci, ds))) (hd : ds[k]? = some none) (hn : narrow ty (.int (ja_I z)) = .int (ja_I z)) (hfit : fits ty (.int (ja_I z)) = true) (d : decode cc pc = .ok (.putfield index, 3)) {pc' : Nat} (hpc : pc + 3 = pc') (kk : ja_W C cells slots lay (ja_up mem a k z) n pc' ls st) : ja_W C cells slots lay mem n pc ls (.int (ja_I z) :: .ref a :: st) := by
  subst hpc
  obtain ⟨p, l, e, R, s, m, args, below, meth, c, D, cA, B, nL, Q⟩ := C
  obtain ⟨hnl, hrm, hx, hb, hml, hown, hts, ⟨hK, hAO, hNw⟩, hlk, hB⟩ := F
  subst hnl; subst hrm
  obtain ⟨Cn, T, N, ty0, hc, hk, hin, hlink, hsm, hty, hnm, hfin, hpd⟩ := f
  intro H locs lsA hH hS hl
  obtain ⟨hBa, han, hat⟩ := hH.2 a _ hy
  have hap := va_apart (own := own) hts hin ty0 hty hnm hK hc
  obtain ⟨cell, q1, q2, q3, q4⟩ := va_at.obj hat hc
  obtain ⟨hSl, hfc, kC, hkC, hkind⟩ := hK.1 ci _ hc
  obtain ⟨cf, kf, fi, fd, hi, hsl⟩ := hSl k hk
  have hlay := hts _ (hin _ (u_in_lay hk))
  unfold u_lay at hlay
  rw [if_neg (by rw [hfin]; decide)] at hlay
  have hst := (u_facts hfc hkC (u_lays hts hin hk) hi).1
  have h6 := u_store hfc hkC hkind hlay hi hpd hn hfit
  have hi' : s.fieldFound? Cn (T k).2.1 (T k).2.2.1 = some (cf, kf, fi, fd) := by have := hi; rw [hsm] at this; exact this
  refine W.putK hx hb (f := fd) ⟨hown, hts _ hlink, ⟨_, _, _, hi'⟩, hst⟩ (by rw [q2]; exact h6) q1 q3 (by rw [hsl]; exact k2_hasslot (q4 k hk)) rfl rfl d fun H' e1 e2 e3 => ?_
  rw [hsl] at e1 ⊢
  refine kk H' _ lsA (hH.upd (a := a) e2 e3 ⟨hBa, han⟩ ?_ (ja_same hy) ja_up_o) (hS.put e2 e3 hBa) hl
  refine ⟨_, hc, ?_⟩
  have h7 := t_OB.to (V' := vp_V (ja_fs 0 ds (ja_up mem a k z a))) ⟨_, e1, q2, q3, t_set q4 hap hk (.int (ja_I z))⟩ (fun j _ => by
    rw [vp_updV_set (by rw [ja_fs_len]; exact (List.getElem?_eq_some_iff.mp hd).1) (.int (ja_I z)) j, ja_fs_put hd])
  exact h7
theorem r_putI (F : ja_F C own cc nl rm) {a ci k index : Nat} {ds : List (Option Value)} {z : Int} (f : ja_Fd own index ci k .int false) (hy : lay a = some (.inl (ci, ds))) (hd : ds[k]? = some none) (d : decode cc pc = .ok (.putfield index, 3)) {pc' : Nat} (hpc : pc + 3 = pc') (kk : ja_W C cells slots lay (ja_up mem a k z) n pc' ls st) : ja_W C cells slots lay mem n pc ls (.int (ja_I z) :: .ref a :: st) := r_putV F f hy hd rfl rfl d hpc kk
theorem r_putZ (F : ja_F C own cc nl rm) {a ci k index : Nat} {ds : List (Option Value)} {z : Int} (hz : z = 0 ∨ z = 1) (f : ja_Fd own index ci k .boolean false) (hy : lay a = some (.inl (ci, ds))) (hd : ds[k]? = some none) (d : decode cc pc = .ok (.putfield index, 3)) {pc' : Nat} (hpc : pc + 3 = pc') (kk : ja_W C cells slots lay (ja_up mem a k z) n pc' ls st) : ja_W C cells slots lay mem n pc ls (.int (ja_I z) :: .ref a :: st) := r_putV F f hy hd (by rcases hz with rfl | rfl <;> decide) (by rcases hz with rfl | rfl <;> decide) d hpc kk
/-- a final field, by the constructor: the layout gets its value -/
def ja_ly (lay : ja_Y) (a : Nat) (e : ja_E) : ja_Y := fun q => if q = a then some e else lay q
theorem ja_ly_s (lay : ja_Y) (a : Nat) (e : ja_E) : ja_ly lay a e a = some e := by simp [ja_ly]
theorem ja_ly_n {lay : ja_Y} {a q : Nat} {e : ja_E} (h : q ≠ a) : ja_ly lay a e q = lay q := by simp [ja_ly, h]
theorem ja_ly_in {lay : ja_Y} {a : Nat} {e' : ja_E} : ∀ q e, ja_ly lay a e' q = some e → (q = a ∧ e = e') ∨ (q ≠ a ∧ lay q = some e) := by
  intro q e hq
  by_cases hqa : q = a
  · subst hqa
    rw [ja_ly_s] at hq
    exact Or.inl ⟨rfl, (Option.some.inj hq).symm⟩
  · rw [ja_ly_n hqa] at hq
    exact Or.inr ⟨hqa, hq⟩
theorem ja_fs_setY : ∀ (ds : List (Option Value)) (i : Nat) (f : Nat → Int) (k : Nat) (v : Value), (ja_fs i ds f).set k v = ja_fs i (ds.set k (some v)) f
  | [], _, _, _, _ => rfl
  | d0 :: ds, i, f, 0, v => rfl
  | d0 :: ds, i, f, k + 1, v => by
    simp only [ja_fs, List.set_cons_succ]
    rw [ja_fs_setY ds (i + 1) f k v]
theorem r_putF (F : ja_F C own cc nl rm) (hnm0 : C.2.2.2.2.2.2.2.2.1.name = "<init>") {a ci k index q : Nat} {ty : FieldType} {ds : List (Option Value)} (hfit : fits ty (.ref q) = true) (hnar : narrow ty (.ref q) = .ref q) (hdecl : vwCl[ci]?.map (·.1) = some own) (f : ja_Fd own index ci k ty true) (hy : lay a = some (.inl (ci, ds))) (hd : k < ds.length) (d : decode cc pc = .ok (.putfield index, 3)) {pc' : Nat} (hpc : pc + 3 = pc') (kk : ja_W C cells slots (ja_ly lay a (.inl (ci, ds.set k (some (.ref q))))) mem n pc' ls st) : ja_W C cells slots lay mem n pc ls (.ref q :: .ref a :: st) := by
  subst hpc
  obtain ⟨p, l, e, R, s, m, args, below, meth, c, D, cA, B, nL, Q⟩ := C
  obtain ⟨hnl, hrm, hx, hb, hml, hown, hts, ⟨hK, hAO, hNw⟩, hlk, hB⟩ := F
  subst hnl; subst hrm
  obtain ⟨Cn, T, N, ty0, hc, hk, hin, hlink, hsm, hty, hnm, hfin, hpd⟩ := f
  intro H locs lsA hH hS hl
  obtain ⟨hBa, han, hat⟩ := hH.2 a _ hy
  have hap := va_apart (own := own) hts hin ty0 hty hnm hK hc
  obtain ⟨cell, q1, q2, q3, q4⟩ := va_at.obj hat hc
  obtain ⟨hSl, hfc, kC, hkC, hkind⟩ := hK.1 ci _ hc
  obtain ⟨cf, kf, fi, fd, hi, hsl⟩ := hSl k hk
  have hlay := hts _ (hin _ (u_in_lay hk))
  unfold u_lay at hlay
  rw [if_pos hfin] at hlay
  have hst := (u_facts hfc hkC (u_lays hts hin hk) hi).1
  have hCn : Cn = own := by
    rw [hc] at hdecl
    exact Option.some.inj hdecl
  have hcf : m.cls = cf := by
    obtain ⟨_, _, c', _, _, _, -, -, hf', -, -, -, hown2, -⟩ := Cond.laysFinal_spec hlay
    have e1 : c' = cf := by have := hi.symm.trans hf'; simp at this; exact this.1.symm
    rw [hsm, hCn] at hown2
    rw [← e1]; exact Option.some.inj (hown.symm.trans hown2)
  have h6 := u_fits hfc hkC hkind (Or.inr hlay) hi hpd hnar hfit
  have hi' : s.fieldFound? Cn (T k).2.1 (T k).2.2.1 = some (cf, kf, fi, fd) := by have := hi; rw [hsm] at this; exact this
  refine W.putFinK hx hb hown (hts _ hlink) hi' hst hcf hnm0 (by rw [q2]; exact h6) q1 q3 (by rw [hsl]; exact k2_hasslot (q4 k hk)) rfl rfl d fun H' e1 e2 e3 => ?_
  rw [hsl] at e1 ⊢
  refine kk H' _ lsA (hH.upd (a := a) (mem' := mem) (e' := .inl (ci, ds.set k (some (.ref q)))) e2 e3 ⟨hBa, han⟩ ?_ ja_ly_in (fun _ _ => rfl)) (hS.put e2 e3 hBa) hl
  refine ⟨_, hc, ?_⟩
  exact t_OB.to (V' := vp_V (ja_fs 0 (ds.set k (some (.ref q))) (mem a))) ⟨_, e1, q2, q3, t_set q4 hap hk (.ref q)⟩ (fun j _ => by
    rw [vp_updV_set (by rw [ja_fs_len]; exact hd) (.ref q) j, ja_fs_setY])
-- arrays
theorem ja_arr {cA : Nat → ClassId} {s : State} {D : va_G} (hK : va_K D vwCl (ja_tys cA) s) (t : Nat) {ca : ClassId} {ty : FieldType} (ht : (ja_tys cA)[t]? = some (ca, ty)) : ArrOfT s ca ty := (hK.2 t _ ht).1
theorem r_iald (F : ja_F C own cc nl rm) {a N : Nat} {r : Nat → Option Nat} {z : Int} (hy : lay a = some (.inr (0, N, r))) (h0 : 0 ≤ z) (h1 : z < N) (hN : N ≤ 2147483648) (d : decode cc pc = .ok (.iaload, 1)) {pc' : Nat} (hpc : pc + 1 = pc') (kk : ja_W C cells slots lay mem n pc' ls (.int (ja_I (mem a z.toNat)) :: st)) : ja_W C cells slots lay mem n pc ls (.int (ja_I z) :: .ref a :: st) := by
  subst hpc
  obtain ⟨p, l, e, R, s, m, args, below, meth, c, D, cA, B, nL, Q⟩ := C
  obtain ⟨hnl, hrm, hx, hb, hml, hown, hts, ⟨hK, hAO, hNw⟩, hlk, hB⟩ := F
  subst hnl; subst hrm
  intro H locs lsA hH hS hl
  have hat := (hH.2 a _ hy).2.2
  have hP : va_P D vwCl [(a, .inl (cA 0, N, .inl (fun j => ja_I (mem a j))))] H := fun q w hq => by
    cases q with
    | zero => cases hq; exact hat
    | succ q => simp at hq
  have hk := kk H locs lsA hH hS hl
  rw [← ja_clamp (z := z) ⟨by omega, by omega⟩] at hk
  exact va_iald hx hb hK hP 0 0 rfl rfl (ja_vpin h0 h1 hN) d hk
theorem r_zald (F : ja_F C own cc nl rm) {a N : Nat} {r : Nat → Option Nat} {z : Int} (hy : lay a = some (.inr (2, N, r))) (h0 : 0 ≤ z) (h1 : z < N) (hN : N ≤ 2147483648) (d : decode cc pc = .ok (.baload, 1)) {pc' : Nat} (hpc : pc + 1 = pc') (kk : ja_W C cells slots lay mem n pc' ls (.int (ja_I (mem a z.toNat)) :: st)) : ja_W C cells slots lay mem n pc ls (.int (ja_I z) :: .ref a :: st) := by
  subst hpc
  obtain ⟨p, l, e, R, s, m, args, below, meth, c, D, cA, B, nL, Q⟩ := C
  obtain ⟨hnl, hrm, hx, hb, hml, hown, hts, ⟨hK, hAO, hNw⟩, hlk, hB⟩ := F
  subst hnl; subst hrm
  intro H locs lsA hH hS hl
  have hat := (hH.2 a _ hy).2.2
  have hP : va_P D vwCl [(a, .inl (cA 2, N, .inl (fun j => ja_I (mem a j))))] H := fun q w hq => by
    cases q with
    | zero => cases hq; exact hat
    | succ q => simp at hq
  have hk := kk H locs lsA hH hS hl
  rw [← ja_clamp (z := z) ⟨by omega, by omega⟩] at hk
  exact va_zald hx hb hK hP 0 2 rfl rfl (ja_vpin h0 h1 hN) d hk
theorem r_lald (F : ja_F C own cc nl rm) {a N : Nat} {r : Nat → Option Nat} {z : Int} (hy : lay a = some (.inr (1, N, r))) (h0 : 0 ≤ z) (h1 : z < N) (hN : N ≤ 2147483648) (d : decode cc pc = .ok (.laload, 1)) {pc' : Nat} (hpc : pc + 1 = pc') (kk : ja_W C cells slots lay mem n pc' ls (.long (ja_L (mem a z.toNat)) :: st)) : ja_W C cells slots lay mem n pc ls (.int (ja_I z) :: .ref a :: st) := by
  subst hpc
  obtain ⟨p, l, e, R, s, m, args, below, meth, c, D, cA, B, nL, Q⟩ := C
  obtain ⟨hnl, hrm, hx, hb, hml, hown, hts, ⟨hK, hAO, hNw⟩, hlk, hB⟩ := F
  subst hnl; subst hrm
  intro H locs lsA hH hS hl
  have hat := (hH.2 a _ hy).2.2
  have hP : va_P D vwCl [(a, .inl (cA 1, N, .inr (.inl (fun j => ja_L (mem a j)))))] H := fun q w hq => by
    cases q with
    | zero => cases hq; exact hat
    | succ q => simp at hq
  have hk := kk H locs lsA hH hS hl
  rw [← ja_clamp (z := z) ⟨by omega, by omega⟩] at hk
  exact va_lald hx hb hK hP 0 1 rfl rfl (ja_vpin h0 h1 hN) d hk
theorem r_aald (F : ja_F C own cc nl rm) {a N : Nat} {r : Nat → Option Nat} {z : Int} (hy : lay a = some (.inr (3, N, r))) (h0 : 0 ≤ z) (h1 : z < N) (hN : N ≤ 2147483648) (d : decode cc pc = .ok (.aaload, 1)) {pc' : Nat} (hpc : pc + 1 = pc') (kk : ja_W C cells slots lay mem n pc' ls (va_rf (r z.toNat) :: st)) : ja_W C cells slots lay mem n pc ls (.int (ja_I z) :: .ref a :: st) := by
  subst hpc
  obtain ⟨p, l, e, R, s, m, args, below, meth, c, D, cA, B, nL, Q⟩ := C
  obtain ⟨hnl, hrm, hx, hb, hml, hown, hts, ⟨hK, hAO, hNw⟩, hlk, hB⟩ := F
  subst hnl; subst hrm
  intro H locs lsA hH hS hl
  have hat := (hH.2 a _ hy).2.2
  have hP : va_P D vwCl [(a, .inl (cA 3, N, .inr (.inr (.inr (.inr r)))))] H := fun q w hq => by
    cases q with
    | zero => cases hq; exact hat
    | succ q => simp at hq
  have hk := kk H locs lsA hH hS hl
  rw [← ja_clamp (z := z) ⟨by omega, by omega⟩] at hk
  exact va_aldq hx hb hK hP 0 3 rfl rfl (ja_vpin h0 h1 hN) d hk
theorem r_iast (F : ja_F C own cc nl rm) {a N : Nat} {r : Nat → Option Nat} {z x : Int} (hy : lay a = some (.inr (0, N, r))) (h0 : 0 ≤ z) (h1 : z < N) (hN : N ≤ 2147483648) (d : decode cc pc = .ok (.iastore, 1)) {pc' : Nat} (hpc : pc + 1 = pc') (kk : ja_W C cells slots lay (ja_up mem a z.toNat x) n pc' ls st) : ja_W C cells slots lay mem n pc ls (.int (ja_I x) :: .int (ja_I z) :: .ref a :: st) := by
  subst hpc
  obtain ⟨p, l, e, R, s, m, args, below, meth, c, D, cA, B, nL, Q⟩ := C
  obtain ⟨hnl, hrm, hx, hb, hml, hown, hts, ⟨hK, hAO, hNw⟩, hlk, hB⟩ := F
  subst hnl; subst hrm
  intro H locs lsA hH hS hl
  obtain ⟨hBa, han, hat⟩ := hH.2 a _ hy
  refine W.iast hx hb hat ((hK.2 0 _ rfl).1 N (fun j => .int (ja_I (mem a j)))) (fun q => by cases q) (by show ¬ (_ ∨ (arrV _ _ _).slots.size ≤ _); rw [arrV_size]; exact ja_vpin h0 h1 hN) rfl rfl d fun H1 e1 e2 e3 => ?_
  refine kk H1 _ lsA (hH.upd (a := a) e2 e3 ⟨hBa, han⟩ ?_ (ja_same hy) ja_up_o) (hS.put e2 e3 hBa) hl
  show H1[a]? = some (vp_cell _ _)
  rw [e1]
  show some ((vp_cell (cA 0) (N, .inl (fun j => ja_I (mem a j)))).setSlot _ _) = some (vp_cell (cA 0) (N, .inl _))
  rw [vp_cell_i, vp_cell_i, arrV_store, ja_clamp ⟨by omega, by omega⟩]
  congr 2
  funext q
  by_cases hq : q = z.toNat
  · subst hq
    simp [updV, ja_up]
  · simp [updV, ja_up, hq]
theorem r_zast (F : ja_F C own cc nl rm) {a N : Nat} {r : Nat → Option Nat} {z x : Int} (hz : x = 0 ∨ x = 1) (hy : lay a = some (.inr (2, N, r))) (h0 : 0 ≤ z) (h1 : z < N) (hN : N ≤ 2147483648) (d : decode cc pc = .ok (.bastore, 1)) {pc' : Nat} (hpc : pc + 1 = pc') (kk : ja_W C cells slots lay (ja_up mem a z.toNat x) n pc' ls st) : ja_W C cells slots lay mem n pc ls (.int (ja_I x) :: .int (ja_I z) :: .ref a :: st) := by
  subst hpc
  obtain ⟨p, l, e, R, s, m, args, below, meth, c, D, cA, B, nL, Q⟩ := C
  obtain ⟨hnl, hrm, hx, hb, hml, hown, hts, ⟨hK, hAO, hNw⟩, hlk, hB⟩ := F
  subst hnl; subst hrm
  intro H locs lsA hH hS hl
  obtain ⟨hBa, han, hat⟩ := hH.2 a _ hy
  refine W.zast hx hb hat ((hK.2 2 _ rfl).1 N (fun j => .int (ja_I (mem a j)))) (fun q => by cases q) (by show ¬ (_ ∨ (arrV _ _ _).slots.size ≤ _); rw [arrV_size]; exact ja_vpin h0 h1 hN) rfl rfl d fun H1 e1 e2 e3 => ?_
  refine kk H1 _ lsA (hH.upd (a := a) e2 e3 ⟨hBa, han⟩ ?_ (ja_same hy) ja_up_o) (hS.put e2 e3 hBa) hl
  show H1[a]? = some (vp_cell _ _)
  rw [e1]
  show some ((vp_cell (cA 2) (N, .inl (fun j => ja_I (mem a j)))).setSlot _ _) = some (vp_cell (cA 2) (N, .inl _))
  rw [vp_cell_i, vp_cell_i, arrV_store, ja_clamp ⟨by omega, by omega⟩]
  congr 2
  funext q
  by_cases hq : q = z.toNat
  · subst hq
    rcases hz with rfl | rfl <;> simp [updV, ja_up] <;> decide
  · simp [updV, ja_up, hq]
theorem r_last (F : ja_F C own cc nl rm) {a N : Nat} {r : Nat → Option Nat} {z : Int} {x : Int64} (hy : lay a = some (.inr (1, N, r))) (h0 : 0 ≤ z) (h1 : z < N) (hN : N ≤ 2147483648) (d : decode cc pc = .ok (.lastore, 1)) {pc' : Nat} (hpc : pc + 1 = pc') (kk : ja_W C cells slots lay (ja_up mem a z.toNat x.toInt) n pc' ls st) : ja_W C cells slots lay mem n pc ls (.long x :: .int (ja_I z) :: .ref a :: st) := by
  subst hpc
  obtain ⟨p, l, e, R, s, m, args, below, meth, c, D, cA, B, nL, Q⟩ := C
  obtain ⟨hnl, hrm, hx, hb, hml, hown, hts, ⟨hK, hAO, hNw⟩, hlk, hB⟩ := F
  subst hnl; subst hrm
  intro H locs lsA hH hS hl
  obtain ⟨hBa, han, hat⟩ := hH.2 a _ hy
  refine W.last hx hb hat ((hK.2 1 _ rfl).1 N (fun j => .long (ja_L (mem a j)))) (fun q => by cases q) (by show ¬ (_ ∨ (arrV _ _ _).slots.size ≤ _); rw [arrV_size]; exact ja_vpin h0 h1 hN) rfl rfl d fun H1 e1 e2 e3 => ?_
  refine kk H1 _ lsA (hH.upd (a := a) e2 e3 ⟨hBa, han⟩ ?_ (ja_same hy) ja_up_o) (hS.put e2 e3 hBa) hl
  show H1[a]? = some (vp_cell _ _)
  rw [e1]
  show some ((vp_cell (cA 1) (N, .inr (.inl (fun j => ja_L (mem a j))))).setSlot _ _) = some (vp_cell (cA 1) (N, .inr (.inl _)))
  rw [vp_cell_l, vp_cell_l, arrV_store, ja_clamp ⟨by omega, by omega⟩]
  congr 2
  funext q
  by_cases hq : q = z.toNat
  · subst hq
    simp [updV, ja_up, ja_Lof]
  · simp [updV, ja_up, hq]
end
