set_option maxRecDepth 100000 in
set_option maxHeartbeats 800000 in
theorem K_40 {C : ja_C} {D : va_G} {cA : Nat → ClassId} {l : Launch} {B b L y n cells slots k : Nat} {i : Int} {lay : ja_Y} {mem : ja_M} {sl : Nat → Option Nat} {xs : Nat → Int32} (F : ja_F C RL cL_law 4 room_1) (GC : ja_G C l D cA B) (X : ja_X C b L xs) (hL : L ≤ 2560) (hi : i = 5 * (k : Int)) (hk : 5 * k + 5 ≤ L) (h : L_In S1 lay mem n y sl (500 * (k : Int))) (hc : cells ≤ 1000 + 20 * k) (hs : slots ≤ 40000 + 1269 * k) (J : ∀ (lay2 : ja_Y) (mem2 : ja_M) (n2 : Nat) (sl2 : Nat → Option Nat) (cells2 slots2 : Nat), L_In S1 lay2 mem2 n2 y sl2 (500 * (k : Int) + 500) → cells2 ≤ 1000 + 20 * k + 20 → slots2 ≤ 40000 + 1269 * k + 1269 → ja_W C cells2 slots2 lay2 mem2 n2 1226 [some (.ref b), some (.ref y), some (.ref (y + 49)), some (.int (ja_I i))] []) : ja_W C cells slots lay mem n 1154 [some (.ref b), some (.ref y), some (.ref (y + 49)), some (.int (ja_I i))] [] := by
  obtain ⟨⟨hB, hO, hn, hso, hsd⟩, ⟨hM, hN, hTO, hz4, hkp⟩, hT, hx, hsl⟩ := id h
  have hSOK : S_ok S1 := S1_ok
  have hk512 : k ≤ 512 := by omega
  have hc0 : cells ≤ 500000 := by omega
  have hs0 : slots ≤ 5000000 := by omega
  refine r_aload_n F rfl rfl dL_law_1154 rfl ?_
  refine r_callV F GC (c_X8_scheduled l D cA B hB hO ) v_L_179 rfl hB.1 rfl ⟨(Nat.le_of_ble_eq_true rfl), (Nat.le_of_ble_eq_true rfl)⟩ ⟨Nat.le_trans (Nat.add_le_add_right hc0 _) (Nat.le_of_ble_eq_true rfl), Nat.le_trans (Nat.add_le_add_right hs0 _) (Nat.le_of_ble_eq_true rfl)⟩ (Nat.le_of_ble_eq_true rfl) rfl dL_law_1155 rfl (fun v L1 M1 n1 hp => ?_)
  have hc1 : cells + rm_X8_scheduled.cells ≤ 1000 + 20 * k + 20 := Nat.add_le_add hc (Nat.le_of_ble_eq_true rfl)
  have hs1 : slots + rm_X8_scheduled.slots ≤ 40000 + 1269 * k + 1269 := Nat.add_le_add hs (Nat.le_of_ble_eq_true rfl)
  have hc2 : cells + rm_X8_scheduled.cells ≤ 500000 := by omega
  have hs2 : slots + rm_X8_scheduled.slots ≤ 5000000 := by omega
  obtain ⟨q1, q2, q3, q4⟩ := hp
  subst q1; subst q2; subst q4
  have cF : ∀ q, y + 41 ≤ q → M1 q = mem q := fun q qa => by rw [← q3]
  have c1 : ∀ q, y + 49 ≤ q → q < y + 58 → M1 q = mem q := fun q qa _ => cF q (by omega)
  have cB : ja_BO M1 y sl (500 * (k : Int) + 500) := by rw [← q3]; exact BO_cg (by omega) hO (fun _ _ _ => rfl) (fun _ _ _ _ _ _ _ => rfl)
  refine r_pop F rfl dL_law_1158 rfl ?_
  refine r_mem (mem' := ja_rw M1 (y + 49 + 1) (mem (y + 49 + 1))) (by rw [← c1 (y + 49 + 1) (by omega) (by omega), ja_rw_self]) ?_
  have hTO1 : N_TO M1 (y + 49) := N_TO_c (by rw [c1 _ (by omega) (by omega)]) (c1 _ (by omega) (by omega)) hTO
  have hz1 : ∀ j, 0 ≤ M1 (y + 49 + 4) j ∧ M1 (y + 49 + 4) j ≤ 1 := fun j => by rw [c1 _ (by omega) (by omega)]; exact hz4 j
  refine r_aload_n F rfl rfl dL_law_1159 rfl ?_
  refine r_callV F GC (c_X9_scheduled l D cA B hM hN.1) v_L_182 rfl hM.1 rfl ⟨(Nat.le_of_ble_eq_true rfl), (Nat.le_of_ble_eq_true rfl)⟩ ⟨Nat.le_trans (Nat.add_le_add_right hc2 _) (Nat.le_of_ble_eq_true rfl), Nat.le_trans (Nat.add_le_add_right hs2 _) (Nat.le_of_ble_eq_true rfl)⟩ (Nat.le_of_ble_eq_true rfl) rfl dL_law_1160 rfl (fun v L2 M2 n2 hp => ?_)
  obtain ⟨q5, q6, q7, q8⟩ := hp
  subst q5; subst q6; subst q8
  have hIn := In_step2 hSOK h q7 (fun q hq => cF q (by omega)) (by rw [cF _ (by omega)]) (cF _ (by omega)) cB N_rf.rf (hN.mono (by omega)) (by rw [← q3]; exact hT)
  refine r_pop F rfl dL_law_1163 rfl ?_
  refine r_goto F (tgt := 1226) dL_law_1164 (by decide) ?_
  exact J _ _ _ _ _ _ hIn (Nat.le_trans (Nat.add_le_add_left ((Nat.le_of_ble_eq_true rfl) : rm_X9_scheduled.cells ≤ 0) _) hc1) (Nat.le_trans (Nat.add_le_add_left ((Nat.le_of_ble_eq_true rfl) : rm_X9_scheduled.slots ≤ 0) _) hs1)
set_option maxRecDepth 100000 in
set_option maxHeartbeats 800000 in
theorem K_41 {C : ja_C} {D : va_G} {cA : Nat → ClassId} {l : Launch} {B b L y n cells slots k : Nat} {i : Int} {lay : ja_Y} {mem : ja_M} {sl : Nat → Option Nat} {xs : Nat → Int32} (F : ja_F C RL cL_law 4 room_1) (GC : ja_G C l D cA B) (X : ja_X C b L xs) (hL : L ≤ 2560) (hi : i = 5 * (k : Int)) (hk : 5 * k + 5 ≤ L) (h : L_In S1 lay mem n y sl (500 * (k : Int))) (hc : cells ≤ 1000 + 20 * k) (hs : slots ≤ 40000 + 1269 * k) (J : ∀ (lay2 : ja_Y) (mem2 : ja_M) (n2 : Nat) (sl2 : Nat → Option Nat) (cells2 slots2 : Nat), L_In S1 lay2 mem2 n2 y sl2 (500 * (k : Int) + 500) → cells2 ≤ 1000 + 20 * k + 20 → slots2 ≤ 40000 + 1269 * k + 1269 → ja_W C cells2 slots2 lay2 mem2 n2 1226 [some (.ref b), some (.ref y), some (.ref (y + 49)), some (.int (ja_I i))] []) : ja_W C cells slots lay mem n 1167 [some (.ref b), some (.ref y), some (.ref (y + 49)), some (.int (ja_I i))] [] := by
  obtain ⟨⟨hB, hO, hn, hso, hsd⟩, ⟨hM, hN, hTO, hz4, hkp⟩, hT, hx, hsl⟩ := id h
  have hSOK : S_ok S1 := S1_ok
  have hk512 : k ≤ 512 := by omega
  have hc0 : cells ≤ 500000 := by omega
  have hs0 : slots ≤ 5000000 := by omega
  obtain ⟨x1, hx1⟩ : ∃ z, z = (xs (Int.toNat (i + 1))).toInt := ⟨_, rfl⟩
  have hi1 : ja_in x1 := by rw [hx1]; exact ja_range _
  obtain ⟨i1a, i1b⟩ := id hi1
  refine r_aload_n F rfl rfl dL_law_1167 rfl ?_
  refine r_aload_n F rfl rfl dL_law_1168 rfl ?_
  refine r_iload_n F rfl rfl dL_law_1169 rfl ?_
  refine r_iconst F dL_law_1170 rfl ?_
  refine r_iadd F dL_law_1171 rfl ?_
  refine r_sld F X (by omega) (by omega) (by omega) dL_law_1172 rfl ?_
  refine r_eqz (z := x1) hx1.symm ?_
  refine r_callV F GC (c_X8_keep l D cA B hB hO hi1 (by omega) (fun i o hi ho => (hso i o hi ho).2)) v_L_183 rfl hB.1 rfl ⟨(Nat.le_of_ble_eq_true rfl), (Nat.le_of_ble_eq_true rfl)⟩ ⟨Nat.le_trans (Nat.add_le_add_right hc0 _) (Nat.le_of_ble_eq_true rfl), Nat.le_trans (Nat.add_le_add_right hs0 _) (Nat.le_of_ble_eq_true rfl)⟩ (Nat.le_of_ble_eq_true rfl) rfl dL_law_1173 rfl (fun v L1 M1 n1 hp => ?_)
  have hc1 : cells + rm_X8_keep.cells ≤ 1000 + 20 * k + 20 := Nat.add_le_add hc (Nat.le_of_ble_eq_true rfl)
  have hs1 : slots + rm_X8_keep.slots ≤ 40000 + 1269 * k + 1269 := Nat.add_le_add hs (Nat.le_of_ble_eq_true rfl)
  have hc2 : cells + rm_X8_keep.cells ≤ 500000 := by omega
  have hs2 : slots + rm_X8_keep.slots ≤ 5000000 := by omega
  rcases hp with ⟨hkk, q1, q2, q3, q4⟩ | ⟨o, m0, hkk, q1, q3, hm0, ⟨hso1, q2, q4, q5⟩ | ⟨hsn, ho, hn1, hLR, hlq, hl41, hSo, hZo⟩⟩
  · subst q1; subst q2; subst q4
    have c1 : ∀ q, y + 49 ≤ q → q < y + 58 → M1 q = mem q := fun q _ _ => by rw [← q3]
    refine r_pop F rfl dL_law_1176 rfl ?_
    refine r_mem (mem' := ja_rw M1 (y + 49 + 1) (mem (y + 49 + 1))) (by rw [← c1 (y + 49 + 1) (by omega) (by omega), ja_rw_self]) ?_
    have hTO1 : N_TO M1 (y + 49) := N_TO_c (by rw [c1 _ (by omega) (by omega)]) (c1 _ (by omega) (by omega)) hTO
    have hz1 : ∀ j, 0 ≤ M1 (y + 49 + 4) j ∧ M1 (y + 49 + 4) j ≤ 1 := fun j => by rw [c1 _ (by omega) (by omega)]; exact hz4 j
    refine r_aload_n F rfl rfl dL_law_1177 rfl ?_
    refine r_aload_n F rfl rfl dL_law_1178 rfl ?_
    refine r_iload_n F rfl rfl dL_law_1179 rfl ?_
    refine r_iconst F dL_law_1180 rfl ?_
    refine r_iadd F dL_law_1181 rfl ?_
    refine r_sld F X (by omega) (by omega) (by omega) dL_law_1182 rfl ?_
    refine r_eqz (z := x1) hx1.symm ?_
    refine r_callV F GC (c_X9_keep l D cA B hM hN.1 hi1) v_L_186 rfl hM.1 rfl ⟨(Nat.le_of_ble_eq_true rfl), (Nat.le_of_ble_eq_true rfl)⟩ ⟨Nat.le_trans (Nat.add_le_add_right hc2 _) (Nat.le_of_ble_eq_true rfl), Nat.le_trans (Nat.add_le_add_right hs2 _) (Nat.le_of_ble_eq_true rfl)⟩ (Nat.le_of_ble_eq_true rfl) rfl dL_law_1183 rfl (fun v L2 M2 n2 hp => ?_)
    obtain ⟨q5, q6, q7, q8⟩ := hp
    subst q5; subst q6; subst q8
    rw [if_neg hkk] at q7
    have hIn := In_step2 hSOK h q7 (fun q _ => by rw [← q3]) (by rw [← q3]) (by rw [← q3]) (by rw [← q3]; exact BO_cg (by omega) hO (fun _ _ _ => rfl) (fun _ _ _ _ _ _ _ => rfl)) N_rf.rf (hN.mono (by omega)) (by rw [← q3]; exact hT)
    refine r_pop F rfl dL_law_1186 rfl ?_
    refine r_goto F (tgt := 1226) dL_law_1187 (by decide) ?_
    exact J _ _ _ _ _ _ hIn (Nat.le_trans (Nat.add_le_add_left ((Nat.le_of_ble_eq_true rfl) : rm_X9_keep.cells ≤ 0) _) hc1) (Nat.le_trans (Nat.add_le_add_left ((Nat.le_of_ble_eq_true rfl) : rm_X9_keep.slots ≤ 0) _) hs1)
  · subst q1; subst q2; subst q4
    have q5_ : m0 = mem := q5
    have hdis : ∀ (s o' : Nat), s < 2 → (s : Int) ≠ x1 → sl s = some o' → o' + 20 ≤ o ∨ o + 20 ≤ o' := fun s o' s2 hne hs => by
      rcases (show x1.toNat = 0 ∨ x1.toNat = 1 by omega) with h0 | h0
      · rw [h0] at hso1
        have : s = 1 := by omega
        subst this
        have := hsd _ _ hso1 hs
        omega
      · rw [h0] at hso1
        have : s = 0 := by omega
        subst this
        exact hsd _ _ hs hso1
    obtain ⟨ho1, ho2⟩ := hso _ _ (by omega) hso1
    have c1 : ∀ q, y + 49 ≤ q → q < y + 58 → M1 q = mem q := fun q qa qb => by rw [q3, R_cp_o (by omega), hm0 q (by omega)]
    refine r_pop F rfl dL_law_1176 rfl ?_
    refine r_mem (mem' := ja_rw M1 (y + 49 + 1) (mem (y + 49 + 1))) (by rw [← c1 (y + 49 + 1) (by omega) (by omega), ja_rw_self]) ?_
    have hTO1 : N_TO M1 (y + 49) := N_TO_c (by rw [c1 _ (by omega) (by omega)]) (c1 _ (by omega) (by omega)) hTO
    have hz1 : ∀ j, 0 ≤ M1 (y + 49 + 4) j ∧ M1 (y + 49 + 4) j ≤ 1 := fun j => by rw [c1 _ (by omega) (by omega)]; exact hz4 j
    refine r_aload_n F rfl rfl dL_law_1177 rfl ?_
    refine r_aload_n F rfl rfl dL_law_1178 rfl ?_
    refine r_iload_n F rfl rfl dL_law_1179 rfl ?_
    refine r_iconst F dL_law_1180 rfl ?_
    refine r_iadd F dL_law_1181 rfl ?_
    refine r_sld F X (by omega) (by omega) (by omega) dL_law_1182 rfl ?_
    refine r_eqz (z := x1) hx1.symm ?_
    refine r_callV F GC (c_X9_keep l D cA B hM hN.1 hi1) v_L_186 rfl hM.1 rfl ⟨(Nat.le_of_ble_eq_true rfl), (Nat.le_of_ble_eq_true rfl)⟩ ⟨Nat.le_trans (Nat.add_le_add_right hc2 _) (Nat.le_of_ble_eq_true rfl), Nat.le_trans (Nat.add_le_add_right hs2 _) (Nat.le_of_ble_eq_true rfl)⟩ (Nat.le_of_ble_eq_true rfl) rfl dL_law_1183 rfl (fun v L2 M2 n2 hp => ?_)
    obtain ⟨q5, q6, q7, q8⟩ := hp
    subst q5; subst q6; subst q8
    rw [if_pos hkk] at q7
    have hIn := In_keep hSOK h hkk q3 hm0 (Nat.le_refl _) ⟨ho1, ho2⟩ ⟨_, by rw [q5_]; exact hO.2.2.2.2 _ _ (by omega) hso1⟩ hB hM hso1 (fun _ _ _ => rfl) hdis
    rw [q7] at hIn
    refine r_pop F rfl dL_law_1186 rfl ?_
    refine r_goto F (tgt := 1226) dL_law_1187 (by decide) ?_
    exact J _ _ _ _ _ _ hIn (Nat.le_trans (Nat.add_le_add_left ((Nat.le_of_ble_eq_true rfl) : rm_X9_keep.cells ≤ 0) _) hc1) (Nat.le_trans (Nat.add_le_add_left ((Nat.le_of_ble_eq_true rfl) : rm_X9_keep.slots ≤ 0) _) hs1)
  · subst q1; subst hn1; subst ho
    have c1 : ∀ q, y + 49 ≤ q → q < y + 58 → M1 q = mem q := fun q qa qb => by rw [q3, R_cp_o (by omega), hm0 q (by omega)]
    have hM1 : ja_LM L1 (y + 49) := ja_LM_c (fun q qa qb => hlq q (by omega) (by omega)) hM
    have hsu : ∀ s : Nat, s < 2 → (s : Int) ≠ x1 → va_up sl x1.toNat (some o) s = sl s := fun s s2 hne => by
      unfold va_up
      rw [if_neg (by omega)]
    have hsk : va_up sl x1.toNat (some o) x1.toNat = some o := by
      unfold va_up
      rw [if_pos rfl]
    have hlB : ja_LB L1 y (va_up sl x1.toNat (some o)) := ja_LB_c (fun q qa qb qc => hlq q (by omega) qc) hl41 (fun s o' s2 hs => by
      by_cases hne : (s : Int) = x1
      · rw [show s = x1.toNat by omega, hsk] at hs
        cases hs
        exact ⟨by omega, hLR⟩
      · rw [hsu s s2 hne] at hs
        have ho1 := hso s o' s2 hs
        exact ⟨by omega, ja_LR_c (fun q qa qb => hlq q (by omega) (by omega)) (hB.2.2.2.2.2.2 s o' s2 hs).2⟩) hB
    refine r_pop F rfl dL_law_1176 rfl ?_
    refine r_mem (mem' := ja_rw M1 (y + 49 + 1) (mem (y + 49 + 1))) (by rw [← c1 (y + 49 + 1) (by omega) (by omega), ja_rw_self]) ?_
    have hTO1 : N_TO M1 (y + 49) := N_TO_c (by rw [c1 _ (by omega) (by omega)]) (c1 _ (by omega) (by omega)) hTO
    have hz1 : ∀ j, 0 ≤ M1 (y + 49 + 4) j ∧ M1 (y + 49 + 4) j ≤ 1 := fun j => by rw [c1 _ (by omega) (by omega)]; exact hz4 j
    refine r_aload_n F rfl rfl dL_law_1177 rfl ?_
    refine r_aload_n F rfl rfl dL_law_1178 rfl ?_
    refine r_iload_n F rfl rfl dL_law_1179 rfl ?_
    refine r_iconst F dL_law_1180 rfl ?_
    refine r_iadd F dL_law_1181 rfl ?_
    refine r_sld F X (by omega) (by omega) (by omega) dL_law_1182 rfl ?_
    refine r_eqz (z := x1) hx1.symm ?_
    refine r_callV F GC (c_X9_keep l D cA B hM1 hN.1 hi1) v_L_186 rfl hM1.1 rfl ⟨(Nat.le_of_ble_eq_true rfl), (Nat.le_of_ble_eq_true rfl)⟩ ⟨Nat.le_trans (Nat.add_le_add_right hc2 _) (Nat.le_of_ble_eq_true rfl), Nat.le_trans (Nat.add_le_add_right hs2 _) (Nat.le_of_ble_eq_true rfl)⟩ (Nat.le_of_ble_eq_true rfl) rfl dL_law_1183 rfl (fun v L2 M2 n2 hp => ?_)
    obtain ⟨q5, q6, q7, q8⟩ := hp
    subst q5; subst q6; subst q8
    rw [if_pos hkk] at q7
    have hIn := In_keep (n1 := o + 20) hSOK h hkk q3 hm0 (by omega) ⟨by omega, by omega⟩ ⟨_, RO_0 hSo (fun q j a1 a2 a3 => hZo q j a1 a2 a3)⟩ hlB hM1 hsk hsu (fun s o' s2 hne hs => Or.inl (hso s o' s2 hs).2)
    rw [q7] at hIn
    refine r_pop F rfl dL_law_1186 rfl ?_
    refine r_goto F (tgt := 1226) dL_law_1187 (by decide) ?_
    exact J _ _ _ _ _ _ hIn (Nat.le_trans (Nat.add_le_add_left ((Nat.le_of_ble_eq_true rfl) : rm_X9_keep.cells ≤ 0) _) hc1) (Nat.le_trans (Nat.add_le_add_left ((Nat.le_of_ble_eq_true rfl) : rm_X9_keep.slots ≤ 0) _) hs1)
set_option maxRecDepth 100000 in
set_option maxHeartbeats 800000 in
theorem K_42 {C : ja_C} {D : va_G} {cA : Nat → ClassId} {l : Launch} {B b L y n cells slots k : Nat} {i : Int} {lay : ja_Y} {mem : ja_M} {sl : Nat → Option Nat} {xs : Nat → Int32} (F : ja_F C RL cL_law 4 room_1) (GC : ja_G C l D cA B) (X : ja_X C b L xs) (hL : L ≤ 2560) (hi : i = 5 * (k : Int)) (hk : 5 * k + 5 ≤ L) (h : L_In S1 lay mem n y sl (500 * (k : Int))) (hc : cells ≤ 1000 + 20 * k) (hs : slots ≤ 40000 + 1269 * k) (J : ∀ (lay2 : ja_Y) (mem2 : ja_M) (n2 : Nat) (sl2 : Nat → Option Nat) (cells2 slots2 : Nat), L_In S1 lay2 mem2 n2 y sl2 (500 * (k : Int) + 500) → cells2 ≤ 1000 + 20 * k + 20 → slots2 ≤ 40000 + 1269 * k + 1269 → ja_W C cells2 slots2 lay2 mem2 n2 1226 [some (.ref b), some (.ref y), some (.ref (y + 49)), some (.int (ja_I i))] []) : ja_W C cells slots lay mem n 1190 [some (.ref b), some (.ref y), some (.ref (y + 49)), some (.int (ja_I i))] [] := by
  obtain ⟨⟨hB, hO, hn, hso, hsd⟩, ⟨hM, hN, hTO, hz4, hkp⟩, hT, hx, hsl⟩ := id h
  have hSOK : S_ok S1 := S1_ok
  have hk512 : k ≤ 512 := by omega
  have hc0 : cells ≤ 500000 := by omega
  have hs0 : slots ≤ 5000000 := by omega
  obtain ⟨x1, hx1⟩ : ∃ z, z = (xs (Int.toNat (i + 1))).toInt := ⟨_, rfl⟩
  have hi1 : ja_in x1 := by rw [hx1]; exact ja_range _
  obtain ⟨i1a, i1b⟩ := id hi1
  refine r_aload_n F rfl rfl dL_law_1190 rfl ?_
  refine r_aload_n F rfl rfl dL_law_1191 rfl ?_
  refine r_iload_n F rfl rfl dL_law_1192 rfl ?_
  refine r_iconst F dL_law_1193 rfl ?_
  refine r_iadd F dL_law_1194 rfl ?_
  refine r_sld F X (by omega) (by omega) (by omega) dL_law_1195 rfl ?_
  refine r_eqz (z := x1) hx1.symm ?_
  refine r_callV F GC (c_X8_restore l D cA B hB hO hi1) v_L_187 rfl hB.1 rfl ⟨(Nat.le_of_ble_eq_true rfl), (Nat.le_of_ble_eq_true rfl)⟩ ⟨Nat.le_trans (Nat.add_le_add_right hc0 _) (Nat.le_of_ble_eq_true rfl), Nat.le_trans (Nat.add_le_add_right hs0 _) (Nat.le_of_ble_eq_true rfl)⟩ (Nat.le_of_ble_eq_true rfl) rfl dL_law_1196 rfl (fun v L1 M1 n1 hp => ?_)
  have hc1 : cells + rm_X8_restore.cells ≤ 1000 + 20 * k + 20 := Nat.add_le_add hc (Nat.le_of_ble_eq_true rfl)
  have hs1 : slots + rm_X8_restore.slots ≤ 40000 + 1269 * k + 1269 := Nat.add_le_add hs (Nat.le_of_ble_eq_true rfl)
  have hc2 : cells + rm_X8_restore.cells ≤ 500000 := by omega
  have hs2 : slots + rm_X8_restore.slots ≤ 5000000 := by omega
  obtain ⟨q2, q4, hp⟩ := hp
  subst q2; subst q4
  rcases hp with ⟨hkk, q1, q3⟩ | ⟨hkk, hsn, q1, q3⟩ | ⟨o, hkk, hso1, q1, q3⟩
  · subst q1
    have c1 : ∀ q, y + 49 ≤ q → q < y + 58 → M1 q = mem q := fun q _ _ => by rw [← q3]
    refine r_pop F rfl dL_law_1199 rfl ?_
    refine r_mem (mem' := ja_rw M1 (y + 49 + 1) (mem (y + 49 + 1))) (by rw [← c1 (y + 49 + 1) (by omega) (by omega), ja_rw_self]) ?_
    have hTO1 : N_TO M1 (y + 49) := N_TO_c (by rw [c1 _ (by omega) (by omega)]) (c1 _ (by omega) (by omega)) hTO
    have hz1 : ∀ j, 0 ≤ M1 (y + 49 + 4) j ∧ M1 (y + 49 + 4) j ≤ 1 := fun j => by rw [c1 _ (by omega) (by omega)]; exact hz4 j
    refine r_aload_n F rfl rfl dL_law_1200 rfl ?_
    refine r_aload_n F rfl rfl dL_law_1201 rfl ?_
    refine r_iload_n F rfl rfl dL_law_1202 rfl ?_
    refine r_iconst F dL_law_1203 rfl ?_
    refine r_iadd F dL_law_1204 rfl ?_
    refine r_sld F X (by omega) (by omega) (by omega) dL_law_1205 rfl ?_
    refine r_eqz (z := x1) hx1.symm ?_
    refine r_callV F GC (c_X9_restore l D cA B hM hN.1 hz1 hi1) v_L_190 rfl hM.1 rfl ⟨(Nat.le_of_ble_eq_true rfl), (Nat.le_of_ble_eq_true rfl)⟩ ⟨Nat.le_trans (Nat.add_le_add_right hc2 _) (Nat.le_of_ble_eq_true rfl), Nat.le_trans (Nat.add_le_add_right hs2 _) (Nat.le_of_ble_eq_true rfl)⟩ (Nat.le_of_ble_eq_true rfl) rfl dL_law_1206 rfl (fun v L2 M2 n2 hp => ?_)
    obtain ⟨q5, q6, q7, q8⟩ := hp
    subst q5; subst q6; subst q8
    rw [if_neg (fun q => hkk q.1)] at q7
    have hIn := In_step2 hSOK h q7 (fun q _ => by rw [← q3]) (by rw [← q3]) (by rw [← q3]) (by rw [← q3]; exact BO_cg (by omega) hO (fun _ _ _ => rfl) (fun _ _ _ _ _ _ _ => rfl)) N_rf.rf (hN.mono (by omega)) (by rw [← q3]; exact hT)
    refine r_pop F rfl dL_law_1209 rfl ?_
    refine r_goto F (tgt := 1226) dL_law_1210 (by decide) ?_
    exact J _ _ _ _ _ _ hIn (Nat.le_trans (Nat.add_le_add_left ((Nat.le_of_ble_eq_true rfl) : rm_X9_restore.cells ≤ 0) _) hc1) (Nat.le_trans (Nat.add_le_add_left ((Nat.le_of_ble_eq_true rfl) : rm_X9_restore.slots ≤ 0) _) hs1)
  · subst q1
    have c1 : ∀ q, y + 49 ≤ q → q < y + 58 → M1 q = mem q := fun q _ _ => by rw [← q3]
    have hf0 : M1 (y + 49 + 4) x1.toNat = 0 := by rw [c1 _ (by omega) (by omega)]; exact (hsl x1.toNat (by omega)).1 hsn
    refine r_pop F rfl dL_law_1199 rfl ?_
    refine r_mem (mem' := ja_rw M1 (y + 49 + 1) (mem (y + 49 + 1))) (by rw [← c1 (y + 49 + 1) (by omega) (by omega), ja_rw_self]) ?_
    have hTO1 : N_TO M1 (y + 49) := N_TO_c (by rw [c1 _ (by omega) (by omega)]) (c1 _ (by omega) (by omega)) hTO
    have hz1 : ∀ j, 0 ≤ M1 (y + 49 + 4) j ∧ M1 (y + 49 + 4) j ≤ 1 := fun j => by rw [c1 _ (by omega) (by omega)]; exact hz4 j
    refine r_aload_n F rfl rfl dL_law_1200 rfl ?_
    refine r_aload_n F rfl rfl dL_law_1201 rfl ?_
    refine r_iload_n F rfl rfl dL_law_1202 rfl ?_
    refine r_iconst F dL_law_1203 rfl ?_
    refine r_iadd F dL_law_1204 rfl ?_
    refine r_sld F X (by omega) (by omega) (by omega) dL_law_1205 rfl ?_
    refine r_eqz (z := x1) hx1.symm ?_
    refine r_callV F GC (c_X9_restore l D cA B hM hN.1 hz1 hi1) v_L_190 rfl hM.1 rfl ⟨(Nat.le_of_ble_eq_true rfl), (Nat.le_of_ble_eq_true rfl)⟩ ⟨Nat.le_trans (Nat.add_le_add_right hc2 _) (Nat.le_of_ble_eq_true rfl), Nat.le_trans (Nat.add_le_add_right hs2 _) (Nat.le_of_ble_eq_true rfl)⟩ (Nat.le_of_ble_eq_true rfl) rfl dL_law_1206 rfl (fun v L2 M2 n2 hp => ?_)
    obtain ⟨q5, q6, q7, q8⟩ := hp
    subst q5; subst q6; subst q8
    rw [if_neg (fun q => q.2 hf0)] at q7
    have hIn := In_step2 hSOK h q7 (fun q _ => by rw [← q3]) (by rw [← q3]) (by rw [← q3]) (by rw [← q3]; exact BO_cg (by omega) hO (fun _ _ _ => rfl) (fun _ _ _ _ _ _ _ => rfl)) N_rf.rf (hN.mono (by omega)) (by rw [← q3]; exact hT)
    refine r_pop F rfl dL_law_1209 rfl ?_
    refine r_goto F (tgt := 1226) dL_law_1210 (by decide) ?_
    exact J _ _ _ _ _ _ hIn (Nat.le_trans (Nat.add_le_add_left ((Nat.le_of_ble_eq_true rfl) : rm_X9_restore.cells ≤ 0) _) hc1) (Nat.le_trans (Nat.add_le_add_left ((Nat.le_of_ble_eq_true rfl) : rm_X9_restore.slots ≤ 0) _) hs1)
  · subst q1
    have ho1 := hso _ _ (by omega) hso1
    have c1 : ∀ q, y + 49 ≤ q → q < y + 58 → M1 q = mem q := fun q qa qb => by rw [← q3, R_cp_o (by omega)]
    have hf1 : ¬ M1 (y + 49 + 4) x1.toNat = 0 := by rw [c1 _ (by omega) (by omega), ((hsl x1.toNat (by omega)).2 o hso1).1]; decide
    refine r_pop F rfl dL_law_1199 rfl ?_
    refine r_mem (mem' := ja_rw M1 (y + 49 + 1) (mem (y + 49 + 1))) (by rw [← c1 (y + 49 + 1) (by omega) (by omega), ja_rw_self]) ?_
    have hTO1 : N_TO M1 (y + 49) := N_TO_c (by rw [c1 _ (by omega) (by omega)]) (c1 _ (by omega) (by omega)) hTO
    have hz1 : ∀ j, 0 ≤ M1 (y + 49 + 4) j ∧ M1 (y + 49 + 4) j ≤ 1 := fun j => by rw [c1 _ (by omega) (by omega)]; exact hz4 j
    refine r_aload_n F rfl rfl dL_law_1200 rfl ?_
    refine r_aload_n F rfl rfl dL_law_1201 rfl ?_
    refine r_iload_n F rfl rfl dL_law_1202 rfl ?_
    refine r_iconst F dL_law_1203 rfl ?_
    refine r_iadd F dL_law_1204 rfl ?_
    refine r_sld F X (by omega) (by omega) (by omega) dL_law_1205 rfl ?_
    refine r_eqz (z := x1) hx1.symm ?_
    refine r_callV F GC (c_X9_restore l D cA B hM hN.1 hz1 hi1) v_L_190 rfl hM.1 rfl ⟨(Nat.le_of_ble_eq_true rfl), (Nat.le_of_ble_eq_true rfl)⟩ ⟨Nat.le_trans (Nat.add_le_add_right hc2 _) (Nat.le_of_ble_eq_true rfl), Nat.le_trans (Nat.add_le_add_right hs2 _) (Nat.le_of_ble_eq_true rfl)⟩ (Nat.le_of_ble_eq_true rfl) rfl dL_law_1206 rfl (fun v L2 M2 n2 hp => ?_)
    obtain ⟨q5, q6, q7, q8⟩ := hp
    subst q5; subst q6; subst q8
    rw [if_pos ⟨hkk, hf1⟩] at q7
    have hIn := In_restore hSOK h (by omega) hso1 q3 (v' := fun j => M1 (y + 49 + 3) ((2484 * x1).toNat + j)) (fun j hj => by rw [c1 _ (by omega) (by omega), show (2484 * x1).toNat = 2484 * x1.toNat by omega])
    rw [q7] at hIn
    refine r_pop F rfl dL_law_1209 rfl ?_
    refine r_goto F (tgt := 1226) dL_law_1210 (by decide) ?_
    exact J _ _ _ _ _ _ hIn (Nat.le_trans (Nat.add_le_add_left ((Nat.le_of_ble_eq_true rfl) : rm_X9_restore.cells ≤ 0) _) hc1) (Nat.le_trans (Nat.add_le_add_left ((Nat.le_of_ble_eq_true rfl) : rm_X9_restore.slots ≤ 0) _) hs1)
set_option maxRecDepth 100000 in
set_option maxHeartbeats 800000 in
theorem K_43 {C : ja_C} {D : va_G} {cA : Nat → ClassId} {l : Launch} {B b L y n cells slots k : Nat} {i : Int} {lay : ja_Y} {mem : ja_M} {sl : Nat → Option Nat} {xs : Nat → Int32} (F : ja_F C RL cL_law 4 room_1) (GC : ja_G C l D cA B) (X : ja_X C b L xs) (hL : L ≤ 2560) (hi : i = 5 * (k : Int)) (hk : 5 * k + 5 ≤ L) (h : L_In S1 lay mem n y sl (500 * (k : Int))) (hc : cells ≤ 1000 + 20 * k) (hs : slots ≤ 40000 + 1269 * k) (J : ∀ (lay2 : ja_Y) (mem2 : ja_M) (n2 : Nat) (sl2 : Nat → Option Nat) (cells2 slots2 : Nat), L_In S1 lay2 mem2 n2 y sl2 (500 * (k : Int) + 500) → cells2 ≤ 1000 + 20 * k + 20 → slots2 ≤ 40000 + 1269 * k + 1269 → ja_W C cells2 slots2 lay2 mem2 n2 1226 [some (.ref b), some (.ref y), some (.ref (y + 49)), some (.int (ja_I i))] []) : ja_W C cells slots lay mem n 1213 [some (.ref b), some (.ref y), some (.ref (y + 49)), some (.int (ja_I i))] [] := by
  obtain ⟨⟨hB, hO, hn, hso, hsd⟩, ⟨hM, hN, hTO, hz4, hkp⟩, hT, hx, hsl⟩ := id h
  have hSOK : S_ok S1 := S1_ok
  have hk512 : k ≤ 512 := by omega
  have hc0 : cells ≤ 500000 := by omega
  have hs0 : slots ≤ 5000000 := by omega
  refine r_aload_n F rfl rfl dL_law_1213 rfl ?_
  refine r_callV F GC (c_X8_checksum l D cA B hB hO ) v_L_191 rfl hB.1 rfl ⟨(Nat.le_of_ble_eq_true rfl), (Nat.le_of_ble_eq_true rfl)⟩ ⟨Nat.le_trans (Nat.add_le_add_right hc0 _) (Nat.le_of_ble_eq_true rfl), Nat.le_trans (Nat.add_le_add_right hs0 _) (Nat.le_of_ble_eq_true rfl)⟩ (Nat.le_of_ble_eq_true rfl) rfl dL_law_1214 rfl (fun v L1 M1 n1 hp => ?_)
  have hc1 : cells + rm_X8_checksum.cells ≤ 1000 + 20 * k + 20 := Nat.add_le_add hc (Nat.le_of_ble_eq_true rfl)
  have hs1 : slots + rm_X8_checksum.slots ≤ 40000 + 1269 * k + 1269 := Nat.add_le_add hs (Nat.le_of_ble_eq_true rfl)
  have hc2 : cells + rm_X8_checksum.cells ≤ 500000 := by omega
  have hs2 : slots + rm_X8_checksum.slots ≤ 5000000 := by omega
  obtain ⟨q1, q2, q3, q4⟩ := hp
  subst q1; subst q2; subst q4
  have cF : ∀ q, y + 41 ≤ q → M1 q = mem q := fun q qa => by rw [← q3]
  have c1 : ∀ q, y + 49 ≤ q → q < y + 58 → M1 q = mem q := fun q qa _ => cF q (by omega)
  have cB : ja_BO M1 y sl (500 * (k : Int) + 500) := by rw [← q3]; exact BO_cg (by omega) hO (fun _ _ _ => rfl) (fun _ _ _ _ _ _ _ => rfl)
  refine r_pop2 F rfl dL_law_1217 rfl ?_
  refine r_mem (mem' := ja_rw M1 (y + 49 + 1) (mem (y + 49 + 1))) (by rw [← c1 (y + 49 + 1) (by omega) (by omega), ja_rw_self]) ?_
  have hTO1 : N_TO M1 (y + 49) := N_TO_c (by rw [c1 _ (by omega) (by omega)]) (c1 _ (by omega) (by omega)) hTO
  have hz1 : ∀ j, 0 ≤ M1 (y + 49 + 4) j ∧ M1 (y + 49 + 4) j ≤ 1 := fun j => by rw [c1 _ (by omega) (by omega)]; exact hz4 j
  refine r_aload_n F rfl rfl dL_law_1218 rfl ?_
  refine r_callV F GC (c_X9_checksum l D cA B hM hN.1) v_L_195 rfl hM.1 rfl ⟨(Nat.le_of_ble_eq_true rfl), (Nat.le_of_ble_eq_true rfl)⟩ ⟨Nat.le_trans (Nat.add_le_add_right hc2 _) (Nat.le_of_ble_eq_true rfl), Nat.le_trans (Nat.add_le_add_right hs2 _) (Nat.le_of_ble_eq_true rfl)⟩ (Nat.le_of_ble_eq_true rfl) rfl dL_law_1219 rfl (fun v L2 M2 n2 hp => ?_)
  obtain ⟨q5, q6, q8, G2, hg, q7⟩ := hp
  subst q5; subst q6; subst q8
  have hIn := In_step2 hSOK h q7.symm (fun q hq => cF q (by omega)) (by rw [cF _ (by omega)]) (cF _ (by omega)) cB hg.f (hN.mono (by omega)) (by rw [← q3]; exact hT)
  refine r_pop2 F rfl dL_law_1222 rfl ?_
  refine r_goto F (tgt := 1226) dL_law_1223 (by decide) ?_
  exact J _ _ _ _ _ _ hIn (Nat.le_trans (Nat.add_le_add_left ((Nat.le_of_ble_eq_true rfl) : rm_X9_checksum.cells ≤ 0) _) hc1) (Nat.le_trans (Nat.add_le_add_left ((Nat.le_of_ble_eq_true rfl) : rm_X9_checksum.slots ≤ 0) _) hs1)
