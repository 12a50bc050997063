-- what is made
def ja_zr (mem : ja_M) (a : Nat) : ja_M := fun q j => if q = a then 0 else mem q j
theorem ja_zr_s (mem : ja_M) (a j : Nat) : ja_zr mem a a j = 0 := by simp [ja_zr]
theorem ja_zr_n {mem : ja_M} {a q : Nat} (h : q ≠ a) : ja_zr mem a q = mem q := by funext j; simp [ja_zr, h]
def ja_New (own : String) (index ci N : Nat) (ds : List (Option Value)) : Prop := ∃ (Cn : String) (T : u_T) (ty0 : Nat → FieldType), vwCl[ci]? = some (Cn, T, N) ∧ (∀ w ∈ u_ws Cn T N, w ∈ lw_tbg) ∧ (∀ k, k < N → parseFieldDescriptor (T k).2.2.1 = some (ty0 k)) ∧ Cond.classLink own index Cn ∈ lw_tbg ∧ Cond.instantiable Cn N ∈ lw_tbg ∧ Cond.initialized Cn ∈ lw_tbg ∧ ∀ j, j < N → defaultValue (ty0 j) = vp_V (ja_fs 0 ds (fun _ => 0)) j
theorem ja_H.push {D : va_G} {cA : Nat → ClassId} {B n : Nat} {lay : ja_Y} {mem : ja_M} {H H1 : Heap} {e' : ja_E} (h : ja_H D cA B lay mem n H) (hB : B ≤ n) (hz : H1.size = n + 1) (oq : ∀ q, q < n → H1[q]? = H[q]?) (he : va_at D vwCl (n, ja_cell cA e' (fun _ => 0)) H1) : ja_H D cA B (ja_ly lay n e') (ja_zr mem n) (n + 1) H1 := by
  refine ⟨hz, fun q e hq => ?_⟩
  rcases ja_ly_in q e hq with ⟨rfl, rfl⟩ | ⟨h1, h2⟩
  · exact ⟨hB, by omega, by rw [show ja_zr mem q q = (fun _ => 0) from funext fun j => ja_zr_s mem q j]; exact he⟩
  · obtain ⟨g1, g2, g3⟩ := h.2 q e h2
    exact ⟨g1, by omega, by rw [ja_zr_n h1]; exact g3.kept (oq q g2)⟩
section
variable {C : ja_C} {own : String} {cc : ByteArray} {nl : Nat} {rm : Room} {cells slots n : Nat} {lay : ja_Y} {mem : ja_M} {pc : Nat} {ls : List (Option Value)} {st : List Value}
theorem r_new (F : ja_F C own cc nl rm) {index ci N : Nat} {ds : List (Option Value)} (f : ja_New own index ci N ds) (hc1 : cells + 1 ≤ rm.cells) (hs1 : slots + N ≤ rm.slots) (d : decode cc pc = .ok (.new index, 3)) {pc' : Nat} (hpc : pc + 3 = pc') (kk : ja_W C (cells + 1) (slots + N) (ja_ly lay n (.inl (ci, ds))) (ja_zr mem n) (n + 1) pc' ls (.ref n :: st)) : ja_W C cells slots lay mem n pc ls st := by
  subst hpc
  obtain ⟨p, l, e, R, s, m, args, below, meth, c, D, cA, B, nL, Q⟩ := C
  obtain ⟨hnl, hrm, hx, hb, hml, hown, hts, ⟨hK, hAO, hNw⟩, hlk, hB⟩ := F
  subst hnl; subst hrm
  obtain ⟨Cn, T, ty0, hc, hin, hty, hcl, hins, hini, hdef⟩ := f
  intro H locs lsA hH hS hl
  have hKn := hK.1 ci _ hc
  have hBn : B ≤ n := by have := hS.1; rw [hH.1] at this; omega
  refine W.newcK hx hb hown (hts _ hcl) (hts _ hins) (hts _ hini) rfl d hc1 hs1 hKn.2.1 hH.1 fun H1 kC hkC e1 z1 o1 => ?_
  refine kk H1 locs lsA (hH.push hBn z1 o1 ⟨_, hc, (u_born ty0 hts hin hKn hkC e1 hty).to hdef⟩) ⟨by have := hS.1; have := hH.1; omega, fun x h1 h2 => (o1 x (by have := hS.1; have := hH.1; omega)).trans (hS.2.1 x h1 h2), hS.2.2⟩ hl
theorem r_newa (F : ja_F C own cc nl rm) {atype : ArrayType} {kd : Nat} {z : Int} (hw : Cond.arrayClass (newarray.typeOf atype) ∈ lw_tbg) (hkd : kd < 3) (hty : (ja_tys (fun q => q))[kd]?.map (·.2) = some (newarray.typeOf atype)) (h0 : 0 ≤ z) (hb1 : z ≤ 60000000) (hc1 : cells + 1 ≤ rm.cells) (hs1 : slots + z.toNat ≤ rm.slots) (d : decode cc pc = .ok (.newarray atype, 2)) {pc' : Nat} (hpc : pc + 2 = pc') (kk : ja_W C (cells + 1) (slots + z.toNat) (ja_ly lay n (.inr (kd, z.toNat, fun _ => none))) (ja_zr mem n) (n + 1) pc' ls (.ref n :: st)) : ja_W C cells slots lay mem n pc ls (.int (ja_I z) :: st) := by
  subst hpc
  obtain ⟨p, l, e, R, s, m, args, below, meth, c, D, cA, B, nL, Q⟩ := C
  obtain ⟨hnl, hrm, hx, hb, hml, hown, hts, ⟨hK, hAO, hNw⟩, hlk, hB⟩ := F
  subst hnl; subst hrm
  intro H locs lsA hH hS hl
  have hBn : B ≤ n := by have := hS.1; rw [hH.1] at this; omega
  have hzi : ja_in z := ⟨by omega, by omega⟩
  have hcb : componentBytes (newarray.typeOf atype) ≤ 8 := by cases atype <;> decide
  refine va_newaK hx hb (hts _ hw) rfl d rfl (by rw [ja_zero, ja_lt hzi ja_in0]; omega) (ja_clamp hzi) (Nat.le_trans (Nat.mul_le_mul_left _ hcb) (by omega)) hc1 hs1 hH.1 fun H1 ca e1 z1 o1 hAr hNm => ?_
  have hca : ca = cA kd := by
    have hk : ∃ ty, (ja_tys cA)[kd]? = some (cA kd, ty) ∧ newarray.typeOf atype = ty ∧ (ty = .int ∨ ty = .long ∨ ty = .boolean) := by
      match kd, hkd, hty with
      | 0, _, hty => exact ⟨.int, rfl, (Option.some.inj hty).symm, Or.inl rfl⟩
      | 1, _, hty => exact ⟨.long, rfl, (Option.some.inj hty).symm, Or.inr (Or.inl rfl)⟩
      | 2, _, hty => exact ⟨.boolean, rfl, (Option.some.inj hty).symm, Or.inr (Or.inr rfl)⟩
    obtain ⟨ty, h1, h2, h3⟩ := hk
    have h4 := (hK.2 kd _ h1).2
    rw [h2] at hNm
    rcases h3 with rfl | rfl | rfl <;> exact Option.some.inj (hNm.symm.trans h4)
  subst hca
  refine kk H1 locs lsA (hH.push hBn z1 o1 ?_) ⟨by have := hS.1; have := hH.1; omega, fun x h1 h2 => (o1 x (by have := hS.1; have := hH.1; omega)).trans (hS.2.1 x h1 h2), hS.2.2⟩ hl
  match kd, hkd, hty with
  | 0, _, hty => rw [show newarray.typeOf atype = .int from (Option.some.inj hty).symm] at e1; exact e1
  | 1, _, hty => rw [show newarray.typeOf atype = .long from (Option.some.inj hty).symm] at e1; exact e1
  | 2, _, hty => rw [show newarray.typeOf atype = .boolean from (Option.some.inj hty).symm] at e1; exact e1
theorem r_newq (F : ja_F C own cc nl rm) {index : Nat} {z : Int} (hw : Cond.classLink own index RX5 ∈ lw_tbg) (h0 : 0 ≤ z) (hb1 : z ≤ 60000000) (hc1 : cells + 1 ≤ rm.cells) (hs1 : slots + z.toNat ≤ rm.slots) (d : decode cc pc = .ok (.anewarray index, 3)) {pc' : Nat} (hpc : pc + 3 = pc') (kk : ja_W C (cells + 1) (slots + z.toNat) (ja_ly lay n (.inr (3, z.toNat, fun _ => none))) (ja_zr mem n) (n + 1) pc' ls (.ref n :: st)) : ja_W C cells slots lay mem n pc ls (.int (ja_I z) :: st) := by
  subst hpc
  obtain ⟨p, l, e, R, s, m, args, below, meth, c, D, cA, B, nL, Q⟩ := C
  obtain ⟨hnl, hrm, hx, hb, hml, hown, hts, ⟨hK, hAO, hNw⟩, hlk, hB⟩ := F
  subst hnl; subst hrm
  intro H locs lsA hH hS hl
  have hBn : B ≤ n := by have := hS.1; rw [hH.1] at this; omega
  have hzi : ja_in z := ⟨by omega, by omega⟩
  have hk2 := kk
  rw [← ja_clamp hzi] at hk2 hs1
  refine W.anew hx hb hown (hts _ hw) (va_AO.use hAO) rfl d rfl (by rw [ja_zero, ja_lt hzi ja_in0]; omega) (by rw [ja_clamp hzi]; omega) hc1 hs1 fun ca kA comp f1 f2 f3 f4 => ?_
  generalize hH1 : H.push ({ cls := ca, slots := Array.replicate (ja_I z).toNatClampNeg .null, vm := .none } : Cell) = H1
  have z1 : H1.size = n + 1 := by rw [← hH1, Array.size_push, hH.1]
  have e1 : H1[n]? = some (arrV ca (ja_I z).toNatClampNeg (fun _ => .null)) := by rw [← hH1, ← hH.1, Array.getElem?_push_size, ← arrV_new]
  have o1 : ∀ q : Nat, q < n → H1[q]? = H[q]? := fun q hq => by rw [← hH1, Array.getElem?_push, if_neg (by rw [hH.1]; omega)]
  have hca : ca = cA 3 := by
    obtain ⟨kA', comp', g1, g2, g3, g4⟩ := (hK.2 3 _ rfl).2
    exact Option.some.inj (f1.symm.trans g4)
  subst hca
  have hk3 := hk2 H1 locs lsA (hH.push hBn z1 o1 e1) ⟨by have := hS.1; have := hH.1; omega, fun x h1 h2 => (o1 x (by have := hS.1; have := hH.1; omega)).trans (hS.2.1 x h1 h2), hS.2.2⟩ hl
  rw [← hH.1] at hk3
  exact hk3
theorem r_aast (F : ja_F C own cc nl rm) {a v N : Nat} {r : Nat → Option Nat} {z : Int} {ds : List (Option Value)} (hy : lay a = some (.inr (3, N, r))) (hv : lay v = some (.inl (5, ds))) (h0 : 0 ≤ z) (h1 : z < N) (hN : N ≤ 2147483648) (d : decode cc pc = .ok (.aastore, 1)) {pc' : Nat} (hpc : pc + 1 = pc') (kk : ja_W C cells slots (ja_ly lay a (.inr (3, N, va_up r z.toNat (some v)))) mem n pc' ls st) : ja_W C cells slots lay mem n pc ls (.ref v :: .int (ja_I z) :: .ref a :: st) := by
  subst hpc
  obtain ⟨p, l, e, R, s, m, args, below, meth, c, D, cA, B, nL, Q⟩ := C
  obtain ⟨hnl, hrm, hx, hb, hml, hown, hts, ⟨hK, hAO, hNw⟩, hlk, hB⟩ := F
  subst hnl; subst hrm
  intro H locs lsA hH hS hl
  obtain ⟨hBa, han, hat⟩ := hH.2 a _ hy
  obtain ⟨hBv, hvn, hav⟩ := hH.2 v _ hv
  have hin := ja_vpin h0 h1 hN
  have hlt : (ja_I z).toNatClampNeg < N := Nat.not_le.mp fun q => hin (Or.inr q)
  have h00 : ¬ ja_I z < 0 := fun q => hin (Or.inl q)
  obtain ⟨cellV, g1, g2, g3, -⟩ := va_at.obj (r := (RX5, TX5, 9)) hav rfl
  have hcls := (hK.1 5 (RX5, TX5, 9) rfl).2
  obtain ⟨kA, comp, k1, k2, k3, -⟩ := (hK.2 3 _ rfl).2
  have hcomp : comp = D.1 5 := Option.some.inj (k3.symm.trans hcls.1)
  subst hcomp
  obtain ⟨kC, hkC, -⟩ := hcls.2
  refine W.aast hx hb hat (fun q h => by cases h) (fun h => by cases h) k1 k2 rfl hkC ⟨h00, by show _ < (arrV _ _ _).slots.size; rw [arrV_size]; exact hlt⟩ g1 (fun q h => by rw [g3] at h; cases h) (by rw [g2]; exact hkC) (by rw [g2]; exact va_assign hcls) rfl rfl d fun H1 e1 e2 e3 => ?_
  refine kk H1 _ lsA (hH.upd (a := a) (mem' := mem) (e' := .inr (3, N, va_up r z.toNat (some v))) e2 e3 ⟨hBa, han⟩ ?_ ja_ly_in (fun _ _ => rfl)) (hS.put e2 e3 hBa) hl
  show H1[a]? = some (vp_cell _ _)
  rw [e1]
  show some ((vp_cell (cA 3) (N, .inr (.inr (.inr (.inr r))))).setSlot _ _) = some (vp_cell (cA 3) (N, .inr (.inr (.inr (.inr _)))))
  rw [vp_cell_q, vp_cell_q, arrV_store, ja_clamp ⟨by omega, by omega⟩]
  congr 2
  funext q
  by_cases hq : q = z.toNat
  · subst hq
    simp [updV, va_up, va_rf]
  · simp [updV, va_up, hq]
theorem r_objinit (F : ja_F C own cc nl rm) {a index : Nat} (hw : Cond.methodLink own index objectInit ∈ lw_tbg) (hst : (st.map fun v => v.category).sum ≤ 8) (hfr : 1 ≤ rm.frames) (hlo : 20 ≤ rm.locals) (d : decode cc pc = .ok (.invokespecial index, 3)) {pc' : Nat} (hpc : pc + 3 = pc') (kk : ja_W C cells slots lay mem n pc' ls st) : ja_W C cells slots lay mem n pc ls (.ref a :: st) := by
  subst hpc
  obtain ⟨p, l, e, R, s, m, args, below, meth, c, D, cA, B, nL, Q⟩ := C
  obtain ⟨hnl, hrm, hx, hb, hml, hown, hts, ⟨hK, hAO, hNw⟩, hlk, hB⟩ := F
  subst hnl; subst hrm
  intro H locs lsA hH hS hl
  refine W.objInit hx hb hown (hts _ hw) (hts (.instanceMethod objectInit) (by decide +kernel)) (hts (.code objectInit ⟨#[0xb1]⟩ 1 none) (by decide +kernel)) rfl (by rw [hml]; exact hl.1) rfl d hfr (by show 2 * 0 + _ + _ ≤ _; omega) ?_
  exact kk H locs lsA hH hS hl
-- arraycopy
def ja_cp (mem : ja_M) (a0 a1 sp dp k : Nat) : ja_M := fun q j => if q = a1 ∧ dp ≤ j ∧ j < dp + k then mem a0 (sp + (j - dp)) else mem q j
theorem ja_cp_o {mem : ja_M} {a0 a1 sp dp k : Nat} : ∀ q, q ≠ a1 → ja_cp mem a0 a1 sp dp k q = mem q := fun q hq => by funext j; simp [ja_cp, hq]
theorem ja_cpy {mem : ja_M} {a0 a1 sp dp k : Nat} : ja_cp mem a0 a1 sp dp k a1 = va_cpy (mem a0) (mem a1) sp dp k := by funext j; simp [ja_cp, va_cpy]
theorem ja_cpyf {α : Type} (h : Int → α) (f g : Nat → Int) (sp dp k : Nat) : (fun j => h (va_cpy f g sp dp k j)) = va_cpy (fun j => h (f j)) (fun j => h (g j)) sp dp k := by funext j; unfold va_cpy; split <;> rfl
theorem ja_two {D : va_G} {cA : Nat → ClassId} {B n : Nat} {lay : ja_Y} {mem : ja_M} {H : Heap} (hH : ja_H D cA B lay mem n H) {a0 a1 : Nat} {e0 e1 : ja_E} (h0 : lay a0 = some e0) (h1 : lay a1 = some e1) : va_P D vwCl [(a0, ja_cell cA e0 (mem a0)), (a1, ja_cell cA e1 (mem a1))] H := fun q w hq => by
  match q, hq with
  | 0, hq => cases hq; exact (hH.2 a0 _ h0).2.2
  | 1, hq => cases hq; exact (hH.2 a1 _ h1).2.2
  | q + 2, hq => simp at hq
end
