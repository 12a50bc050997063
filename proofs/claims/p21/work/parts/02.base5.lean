section
variable {C : ja_C} {own : String} {cc : ByteArray} {nl : Nat} {rm : Room} {cells slots n : Nat} {lay : ja_Y} {mem : ja_M} {pc : Nat} {ls : List (Option Value)} {st : List Value}
theorem r_copy0 (F : ja_F C own cc nl rm) {a0 a1 n0 n1 index : Nat} {r0 r1 : Nat → Option Nat} {z : Int} (hw1 : Cond.methodLink own index arraycopyName ∈ lw_tbg) (hy0 : lay a0 = some (.inr (0, n0, r0))) (hy1 : lay a1 = some (.inr (0, n1, r1))) (hz0 : 0 ≤ z) (hz1 : z ≤ n0) (hz2 : z ≤ n1) (hz3 : z < 2147483648) (hst : (st.map fun v => v.category).sum ≤ 8) (hfr : 1 ≤ rm.frames) (hlo : 40 ≤ rm.locals) (d : decode cc pc = .ok (.invokestatic index, 3)) {pc' : Nat} (hpc : pc + 3 = pc') (kk : ja_W C cells slots lay (ja_cp mem a0 a1 0 0 z.toNat) n pc' ls st) : ja_W C cells slots lay mem n pc ls (.int (ja_I z) :: .int (ja_I 0) :: .ref a1 :: .int (ja_I 0) :: .ref a0 :: st) := by
  subst hpc
  obtain ⟨p, l, e, R, s, m, args, below, meth, c, D, cA, B, nL, Q⟩ := C
  obtain ⟨hnl, hrm, hx, hb, hml, hown, hts, ⟨hK, hAO, hNw⟩, hlk, hB⟩ := F
  subst hnl; subst hrm
  intro H locs lsA hH hS hl T hT X
  have hzi : ja_in z := ⟨by omega, by omega⟩
  have hzc := ja_clamp hzi
  have hnw : nativeFrameWords "java/lang/System" "arraycopy" 5 + 11 ≤ 32 := by decide +kernel
  have h0c : (ja_I 0).toNatClampNeg = 0 := ja_clamp ja_in0
  have h0t : (ja_I 0).toInt = 0 := ja_toInt ja_in0
  obtain ⟨hBa, han, hc1⟩ := hH.2 a1 _ hy1
  have hc0 : H[a0]? = some (vp_cell (cA 0) (n0, .inl (fun j => ja_I (mem a0 j)))) := (hH.2 a0 _ hy0).2.2
  have hc1 : H[a1]? = some (vp_cell (cA 0) (n1, .inl (fun j => ja_I (mem a1 j)))) := hc1
  obtain ⟨-, k0, hk0, cm0, hkk0⟩ := (hK.2 0 _ rfl).1 n0 (fun j => .int (ja_I (mem a0 j)))
  obtain ⟨-, k1, hk1, cm1, hkk1⟩ := (hK.2 0 _ rfl).1 n1 (fun j => .int (ja_I (mem a1 j)))
  obtain ⟨vm', X', step⟩ := X.arraycopy hx hown (hts _ hw1) (hts (.native arraycopyName) (by decide +kernel)) (hts (.static arraycopyName) (by decide +kernel)) (hts (.initialized "java/lang/System") (by decide +kernel)) (src := a0) (dst := a1) (cs := vp_cell (cA 0) (n0, .inl (fun j => ja_I (mem a0 j)))) (cd := vp_cell (cA 0) (n1, .inl (fun j => ja_I (mem a1 j)))) (srcPos := ja_I 0) (destPos := ja_I 0) (n := ja_I z) (by rw [hT]; exact hc0) (by rw [hT]; exact hc1)
    (fun _ h => by cases h) (fun _ h => by cases h) (fun h => by cases h) (fun h => by cases h) hk0 hk1 hkk0 hkk1 (by simp [refKind]) (by decide) (by decide) (by rw [ja_zero, ja_lt hzi ja_in0]; omega)
    (by rw [h0t, ja_toInt hzi]; show ¬ _ > ((arrV (cA 0) n0 _).slots.size : Int); rw [arrV_size]; omega)
    (by rw [h0t, ja_toInt hzi]; show ¬ _ > ((arrV (cA 0) n1 _).slots.size : Int); rw [arrV_size]; omega)
    (fun vm₁ _ i hi => by
      rw [hzc] at hi
      have e : (vp_cell (cA 0) (n0, .inl (fun j => ja_I (mem a0 j)))).slots.getD ((ja_I 0).toNatClampNeg + i) .null = .int (ja_I (mem a0 (0 + i))) := by
        rw [h0c]
        show (arrV (cA 0) n0 (fun j => .int (ja_I (mem a0 j)))).slots.getD _ _ = _
        rw [Array.getD_eq_getD_getElem?, arrV_read _ _ (by omega)]
        rfl
      refine ⟨?_, ?_⟩
      · rw [e]
        rfl
      · rw [e]
        exact trivial)
    (g := F0 m pc lsA (.int (ja_I z) :: .int (ja_I 0) :: .ref a1 :: .int (ja_I 0) :: .ref a0 :: st)) rfl (by rw [hml]; exact hl.1) (rest := st) rfl (by rw [hb]; exact d) hfr (by show 2 * 0 + _ + _ ≤ _; omega)
  have e1 : copied (vp_cell (cA 0) (n0, .inl (fun j => ja_I (mem a0 j)))) (vp_cell (cA 0) (n1, .inl (fun j => ja_I (mem a1 j)))) (ja_I 0) (ja_I 0) (ja_I z) = vp_cell (cA 0) (n1, .inl (fun j => ja_I (ja_cp mem a0 a1 0 0 z.toNat a1 j))) := by
    have := va_copied (n0 := n0) (n1 := n1) (fun z => Value.int z) (cA 0) (cA 0) (fun j => ja_I (mem a0 j)) (fun j => ja_I (mem a1 j)) (sp := (ja_I 0).toNatClampNeg) (dp := (ja_I 0).toNatClampNeg) (n := (ja_I z).toNatClampNeg) (by rw [h0c, hzc]; omega)
    rw [ja_cpy, ja_cpyf ja_I]
    rw [h0c, hzc] at this
    refine Eq.trans ?_ this
    show copied _ _ _ _ _ = _
    unfold copied
    rw [h0c, hzc]
    rfl
  rw [e1] at X' step
  have hla : a1 < H.size := (Array.getElem?_eq_some_iff.mp hc1).1
  generalize hcell : vp_cell (cA 0) (n1, .inl (fun j => ja_I (ja_cp mem a0 a1 0 0 z.toNat a1 j))) = newc at X' step
  have hheap : ((T.setVm vm').setCell a1 newc).heap = H.setIfInBounds a1 newc := by rw [← hT]; rfl
  have oq : ∀ q : Nat, q ≠ a1 → (H.setIfInBounds a1 newc)[q]? = H[q]? := fun q hq => by simp [Array.getElem?_setIfInBounds, Ne.symm hq]
  have hself : (H.setIfInBounds a1 newc)[a1]? = some newc := by simp [Array.getElem?_setIfInBounds, hla]
  obtain ⟨t, a2, b1⟩ := kk (H.setIfInBounds a1 newc) _ lsA (hH.upd (a := a1) (e' := .inr (0, n1, r1)) (by simp) oq ⟨hBa, han⟩ (show (H.setIfInBounds a1 newc)[a1]? = some (vp_cell (cA 0) (n1, .inl (fun j => ja_I (ja_cp mem a0 a1 0 0 z.toNat a1 j)))) by rw [hself, hcell]) (ja_same hy1) ja_cp_o) ⟨by simp; exact hS.1, fun q g1 g2 => by
      rw [oq q (fun e => g2 (by rw [e]; exact hBa))]
      exact hS.2.1 q g1 g2, fun q hq => by
      rcases List.mem_append.mp hq with h | h
      · exact hS.2.2 q h
      · obtain ⟨z, -, hz⟩ := List.mem_map.mp h
        rw [← hz]
        exact hBa⟩ hl _ hheap X'
  exact ⟨t, step t a2, b1⟩
theorem r_copy1 (F : ja_F C own cc nl rm) {a0 a1 n0 n1 index : Nat} {r0 r1 : Nat → Option Nat} {z : Int} (hw1 : Cond.methodLink own index arraycopyName ∈ lw_tbg) (hy0 : lay a0 = some (.inr (1, n0, r0))) (hy1 : lay a1 = some (.inr (1, n1, r1))) (hz0 : 0 ≤ z) (hz1 : z ≤ n0) (hz2 : z ≤ n1) (hz3 : z < 2147483648) (hst : (st.map fun v => v.category).sum ≤ 8) (hfr : 1 ≤ rm.frames) (hlo : 40 ≤ rm.locals) (d : decode cc pc = .ok (.invokestatic index, 3)) {pc' : Nat} (hpc : pc + 3 = pc') (kk : ja_W C cells slots lay (ja_cp mem a0 a1 0 0 z.toNat) n pc' ls st) : ja_W C cells slots lay mem n pc ls (.int (ja_I z) :: .int (ja_I 0) :: .ref a1 :: .int (ja_I 0) :: .ref a0 :: st) := by
  subst hpc
  obtain ⟨p, l, e, R, s, m, args, below, meth, c, D, cA, B, nL, Q⟩ := C
  obtain ⟨hnl, hrm, hx, hb, hml, hown, hts, ⟨hK, hAO, hNw⟩, hlk, hB⟩ := F
  subst hnl; subst hrm
  intro H locs lsA hH hS hl T hT X
  have hzi : ja_in z := ⟨by omega, by omega⟩
  have hzc := ja_clamp hzi
  have hnw : nativeFrameWords "java/lang/System" "arraycopy" 5 + 11 ≤ 32 := by decide +kernel
  have h0c : (ja_I 0).toNatClampNeg = 0 := ja_clamp ja_in0
  have h0t : (ja_I 0).toInt = 0 := ja_toInt ja_in0
  obtain ⟨hBa, han, hc1⟩ := hH.2 a1 _ hy1
  have hc0 : H[a0]? = some (vp_cell (cA 1) (n0, .inr (.inl (fun j => ja_L (mem a0 j))))) := (hH.2 a0 _ hy0).2.2
  have hc1 : H[a1]? = some (vp_cell (cA 1) (n1, .inr (.inl (fun j => ja_L (mem a1 j))))) := hc1
  obtain ⟨-, k0, hk0, cm0, hkk0⟩ := (hK.2 1 _ rfl).1 n0 (fun j => .long (ja_L (mem a0 j)))
  obtain ⟨-, k1, hk1, cm1, hkk1⟩ := (hK.2 1 _ rfl).1 n1 (fun j => .long (ja_L (mem a1 j)))
  obtain ⟨vm', X', step⟩ := X.arraycopy hx hown (hts _ hw1) (hts (.native arraycopyName) (by decide +kernel)) (hts (.static arraycopyName) (by decide +kernel)) (hts (.initialized "java/lang/System") (by decide +kernel)) (src := a0) (dst := a1) (cs := vp_cell (cA 1) (n0, .inr (.inl (fun j => ja_L (mem a0 j))))) (cd := vp_cell (cA 1) (n1, .inr (.inl (fun j => ja_L (mem a1 j))))) (srcPos := ja_I 0) (destPos := ja_I 0) (n := ja_I z) (by rw [hT]; exact hc0) (by rw [hT]; exact hc1)
    (fun _ h => by cases h) (fun _ h => by cases h) (fun h => by cases h) (fun h => by cases h) hk0 hk1 hkk0 hkk1 (by simp [refKind]) (by decide) (by decide) (by rw [ja_zero, ja_lt hzi ja_in0]; omega)
    (by rw [h0t, ja_toInt hzi]; show ¬ _ > ((arrV (cA 1) n0 _).slots.size : Int); rw [arrV_size]; omega)
    (by rw [h0t, ja_toInt hzi]; show ¬ _ > ((arrV (cA 1) n1 _).slots.size : Int); rw [arrV_size]; omega)
    (fun vm₁ _ i hi => by
      rw [hzc] at hi
      have e : (vp_cell (cA 1) (n0, .inr (.inl (fun j => ja_L (mem a0 j))))).slots.getD ((ja_I 0).toNatClampNeg + i) .null = .long (ja_L (mem a0 (0 + i))) := by
        rw [h0c]
        show (arrV (cA 1) n0 (fun j => .long (ja_L (mem a0 j)))).slots.getD _ _ = _
        rw [Array.getD_eq_getD_getElem?, arrV_read _ _ (by omega)]
        rfl
      refine ⟨?_, ?_⟩
      · rw [e]
        rfl
      · rw [e]
        exact trivial)
    (g := F0 m pc lsA (.int (ja_I z) :: .int (ja_I 0) :: .ref a1 :: .int (ja_I 0) :: .ref a0 :: st)) rfl (by rw [hml]; exact hl.1) (rest := st) rfl (by rw [hb]; exact d) hfr (by show 2 * 0 + _ + _ ≤ _; omega)
  have e1 : copied (vp_cell (cA 1) (n0, .inr (.inl (fun j => ja_L (mem a0 j))))) (vp_cell (cA 1) (n1, .inr (.inl (fun j => ja_L (mem a1 j))))) (ja_I 0) (ja_I 0) (ja_I z) = vp_cell (cA 1) (n1, .inr (.inl (fun j => ja_L (ja_cp mem a0 a1 0 0 z.toNat a1 j)))) := by
    have := va_copied (n0 := n0) (n1 := n1) (fun z => Value.long z) (cA 1) (cA 1) (fun j => ja_L (mem a0 j)) (fun j => ja_L (mem a1 j)) (sp := (ja_I 0).toNatClampNeg) (dp := (ja_I 0).toNatClampNeg) (n := (ja_I z).toNatClampNeg) (by rw [h0c, hzc]; omega)
    rw [ja_cpy, ja_cpyf ja_L]
    rw [h0c, hzc] at this
    refine Eq.trans ?_ this
    show copied _ _ _ _ _ = _
    unfold copied
    rw [h0c, hzc]
    rfl
  rw [e1] at X' step
  have hla : a1 < H.size := (Array.getElem?_eq_some_iff.mp hc1).1
  generalize hcell : vp_cell (cA 1) (n1, .inr (.inl (fun j => ja_L (ja_cp mem a0 a1 0 0 z.toNat a1 j)))) = newc at X' step
  have hheap : ((T.setVm vm').setCell a1 newc).heap = H.setIfInBounds a1 newc := by rw [← hT]; rfl
  have oq : ∀ q : Nat, q ≠ a1 → (H.setIfInBounds a1 newc)[q]? = H[q]? := fun q hq => by simp [Array.getElem?_setIfInBounds, Ne.symm hq]
  have hself : (H.setIfInBounds a1 newc)[a1]? = some newc := by simp [Array.getElem?_setIfInBounds, hla]
  obtain ⟨t, a2, b1⟩ := kk (H.setIfInBounds a1 newc) _ lsA (hH.upd (a := a1) (e' := .inr (1, n1, r1)) (by simp) oq ⟨hBa, han⟩ (show (H.setIfInBounds a1 newc)[a1]? = some (vp_cell (cA 1) (n1, .inr (.inl (fun j => ja_L (ja_cp mem a0 a1 0 0 z.toNat a1 j))))) by rw [hself, hcell]) (ja_same hy1) ja_cp_o) ⟨by simp; exact hS.1, fun q g1 g2 => by
      rw [oq q (fun e => g2 (by rw [e]; exact hBa))]
      exact hS.2.1 q g1 g2, fun q hq => by
      rcases List.mem_append.mp hq with h | h
      · exact hS.2.2 q h
      · obtain ⟨z, -, hz⟩ := List.mem_map.mp h
        rw [← hz]
        exact hBa⟩ hl _ hheap X'
  exact ⟨t, step t a2, b1⟩
end
