-- answers of the fresh objects
section
variable {lay : ja_Y} {mem : ja_M} {n y m : Nat}
theorem Z_bg (h : L_fr lay mem n y m) : ¬ B_bg mem y := by
  intro q
  have e1 := h.R.2 (y + 1) 7 (by omega) (by omega) (by omega)
  have e2 := h.R.2 (y + 1 + 15) 4 (by omega) (by omega) (by omega)
  unfold B_bg at q
  omega
theorem Z_bgN : ¬ N_bg N_v0 := by
  intro q
  have e1 : N_v0 10 = -1 := rfl
  have e2 : N_v0 25 = 0 := rfl
  unfold N_bg at q
  omega
theorem Z_s (h : L_fr lay mem n y m) : ∀ j, j < 9 → mem (y + 1 + 1) j = N_v0 j := by
  obtain ⟨s0, s1, s2, s3, s4, s5, s6, s7, s8⟩ := h.R.1
  intro j hj
  rcases (show j = 0 ∨ j = 1 ∨ j = 2 ∨ j = 3 ∨ j = 4 ∨ j = 5 ∨ j = 6 ∨ j = 7 ∨ j = 8 by omega) with rfl | rfl | rfl | rfl | rfl | rfl | rfl | rfl | rfl
  · exact s0
  · exact s1
  · exact s2
  · exact s3
  · exact s4
  · exact s5
  · exact s6
  · exact s7
  · exact s8
theorem Z_z (h : L_fr lay mem n y m) {c j : Nat} (h0 : c < 20) (h1 : c ≠ 1) : mem (y + 1 + c) j = 0 := h.R.2 _ _ (by omega) (by omega) (by omega)
theorem Z_zz (h : L_fr lay mem n y m) {c d j : Nat} (h0 : c + d < 20) (h1 : c + d ≠ 1) : mem (y + 1 + c + d) j = 0 := h.R.2 _ _ (by omega) (by omega) (by omega)
theorem ja_wave_N {mem : ja_M} {s : Nat} {v : Nat → Int} (h : ∀ j, j < 9 → mem s j = v j) (x j : Int) : ja_wave mem s x j = N_wv v x j := by
  unfold ja_wave N_wv
  rw [h 0 (by omega), h 1 (by omega), h 2 (by omega)]
theorem ja_cov_N {mem : ja_M} {s : Nat} {v : Nat → Int} (h : ∀ j, j < 9 → mem s j = v j) (r k i j : Int) : ja_cov mem s r k i j = N_cv v r k i j := by
  unfold ja_cov N_cv ja_cells N_ar
  rw [h 3 (by omega), h 4 (by omega), Int.mul_comm k, Int.mul_comm j, Int.mul_comm i]
theorem ja_hasB_N {mem : ja_M} {s : Nat} {v : Nat → Int} (h : ∀ j, j < 9 → mem s j = v j) (k : Int) : ja_hasB mem s k ↔ N_hB v k := by
  unfold ja_hasB N_hB ja_cells N_ar
  rw [h 3 (by omega), h 4 (by omega)]
theorem ja_hasP_N {mem : ja_M} {s : Nat} {v : Nat → Int} (h : ∀ j, j < 9 → mem s j = v j) (r k i : Int) : ja_hasP mem s r k i ↔ N_hP v r k i := by
  unfold ja_hasP N_hP
  rw [ja_hasB_N h, h 3 (by omega), h 4 (by omega)]
  constructor
  · rintro ⟨a, b, c⟩
    exact ⟨a, b, by omega⟩
  · rintro ⟨a, b, c⟩
    exact ⟨a, b, by omega⟩
theorem ja_if {P Q : Prop} [Decidable P] [Decidable Q] {a b c d : Int} (h : P ↔ Q) (h1 : Q → a = c) (h2 : b = d) : (if P then a else b) = if Q then c else d := by
  by_cases hq : Q
  · rw [if_pos hq, if_pos (h.mpr hq)]
    exact h1 hq
  · rw [if_neg hq, if_neg (fun p => hq (h.mp p))]
    exact h2
theorem B_par_in {mem : ja_M} {s : Nat} {r k i p : Int} : ∀ c, ja_in (B_par mem s r k i p c)
  | 0 => ⟨by simp [B_par], by simp [B_par]⟩
  | c + 1 => by
    simp only [B_par]
    split
    · exact B_par_in c
    · exact ja_range _
theorem B_par_N {mem : ja_M} {s : Nat} {v : Nat → Int} (h : ∀ j, j < 9 → mem s j = v j) (r k i p : Int) : ∀ c, B_par mem s r k i p c = N_ps v r k i p c
  | 0 => rfl
  | c + 1 => by
    have hin := @B_par_in mem s r k i p c
    simp only [B_par, N_ps]
    rw [← B_par_N h r k i p c, ja_cov_N h, ja_wave_N h]
    by_cases h9 : 999 < N_cv v r k i c
    · rw [if_pos h9, if_pos h9, Z_xor0 hin]
    · rw [if_neg h9, if_neg h9]
theorem Z_frk {b : Nat} (h : Z_R mem b) : ∀ (k : Nat) (x : Int), F_fr mem (b + 1) (b + 2) x k = x
  | 0, _ => rfl
  | k + 1, x => by
    simp only [F_fr]
    rw [if_pos (Z_st h x)]
theorem Z_fok {x : Int} (hx : 0 ≤ x ∧ x ≤ 999) : ∀ k, N_fo N_v0 x k = x
  | 0 => rfl
  | k + 1 => by
    simp only [N_fo]
    rw [if_neg (Z_kn x hx)]
theorem Z_lvN : N_lv N_v0 0 = 0 := by
  unfold N_lv
  rw [Z_fok ⟨by omega, by omega⟩]
  decide
theorem Z_lvR (h : L_fr lay mem n y m) : R_lv mem (y + 1) (mem (y + 1 + 9) 6) = 0 := by
  unfold R_lv
  rw [Z_frk h.R, Int.sub_self, Int.mul_zero]
theorem Z_tgR (h : L_fr lay mem n y m) : R_tg mem (y + 1) = 8 := by
  unfold R_tg T_spr
  rw [Z_z h (by omega) (by omega), if_pos rfl, Z_s h 7 (by omega)]
  rfl
theorem Z_tgN : N_tg N_v0 = 8 := by decide
-- the text
theorem Z_HO (h : L_fr lay mem n y m) : mem (y + 42) 1 = 0 := h.2.2.2.2.2.2.1 _ _ (by omega) (by omega) (by omega) (by omega)
theorem Z_rdB (h : L_fr lay mem n y m) : (B_rd mem y).1 = -1004 ∧ (B_rd mem y).2 = ja_up (ja_up mem (y + 44) 4 0) (y + 42) 2 0 := by
  unfold B_rd
  rw [Z_HO h]
  have e : ja_up (ja_up mem (y + 44) 4 0) (y + 42) 2 0 (y + 42) 2 = 0 := ja_up_s _ _ _ _
  refine ⟨?_, rfl⟩
  show (if ja_up (ja_up mem (y + 44) 4 0) (y + 42) 2 0 (y + 42) 2 = 0 then (-1004 : Int) else 0) = -1004
  rw [e, if_pos rfl]
theorem Z_scB (h : L_fr lay mem n y m) : (B_sc mem y).1 = 0 := by
  obtain ⟨h1, h2⟩ := Z_rdB h
  have e4 : (B_rd mem y).2 (y + 44) 4 = 0 := by rw [h2, ja_up_a (by omega), ja_up_s]
  have e5 : (B_rd mem y).2 (y + 1 + 15) 4 = 0 := by rw [h2, ja_up_a (by omega), ja_up_a (by omega)]; exact Z_z h (by omega) (by omega)
  unfold B_sc
  rw [if_pos h1, e4, e5]
  rfl
theorem Z_rdN {G : ja_M} (h : G m 5 = 0) : N_rdt G m = (1, 0, 0, G (m + 8)) := by
  unfold N_rdt
  rw [h]
  simp only [N_tx]
  rw [if_neg (by omega)]
theorem Z_srN {G : ja_M} (h : G m 5 = 0) : N_sr N_v0 (N_rdt G m) = 0 := by
  rw [Z_rdN h]
  unfold N_sr
  show (if (1 : Int) = 0 then (-1003 : Int) else if N_cas N_v0 (G (m + 8)) 0 0 = 0 then -1001 else if 24 < N_v0 25 + 0 then -1002 else 0) = 0
  rw [if_neg (show ¬ (1 : Int) = 0 by decide), if_neg (show ¬ N_cas N_v0 (G (m + 8)) 0 0 = 0 from (by decide : ¬ (1 : Int) = 0)), if_neg (show ¬ 24 < N_v0 25 + 0 by decide)]
theorem Z_cpI (h : L_fr lay mem n y m) : Z_I (R_cp mem (y + 21) (y + 1)) (y + 21) ∧ (R_cp mem (y + 21) (y + 1)) (y + 21 + 9) 6 = 0 := by
  have hz := Z_z h (c := 15) (j := 4) (by omega) (by omega)
  obtain ⟨e1, e2, e3, e4, e5, e6, e7, e8, e9, e10, e11, e12⟩ := R_cp_eq (mem := mem) (b := y + 21) (o := y + 1) (by omega) (by omega)
  refine ⟨⟨?_, ?_⟩, ?_⟩
  · rw [e12.2.1]
    exact Z_z h (c := 0) (by omega) (by omega)
  · rw [e10, hz]
  · rw [e5.2.2.2]
    exact Z_z h (by omega) (by omega)
theorem Z_I1 (h : L_fr lay mem n y m) : Z_I mem (y + 1) := ⟨Z_z h (c := 0) (by omega) (by omega), Z_z h (by omega) (by omega)⟩
-- the checksum
theorem B_cf_c {h : Int64} {g g' : Nat → Int} : ∀ k : Nat, (∀ j, j < k → g j = g' j) → B_cf h g k = B_cf h g' k
  | 0, _ => rfl
  | k + 1, e => by
    rw [B_cf_s, B_cf_s, B_cf_c k (fun j hj => e j (by omega)), e k (by omega)]
theorem Z_ou (h : L_fr lay mem n y m) (k : Int) : B_ou mem y k = N_ou N_v0 k := by
  unfold B_ou N_ou
  rw [Z_z h (c := 9) (j := 4) (by omega) (by omega), show N_v0 12 = 0 from rfl]
  refine ja_if Iff.rfl (fun hk => ?_) rfl
  rw [if_pos (by omega), if_pos (by omega)]
theorem Z_ki (h : L_fr lay mem n y m) (k : Int) : B_ki mem y k = N_ki N_v0 k := by
  unfold B_ki N_ki
  rw [Z_z h (c := 9) (j := 6) (by omega) (by omega), show N_v0 11 = 0 from rfl]
  refine ja_if Iff.rfl (fun hk => ?_) rfl
  rw [if_pos (by omega), if_pos (by omega)]
theorem Z_ck (h : L_fr lay mem n y m) : B_ck mem y = N_ck N_v0 := by
  have z9 : ∀ j, mem (y + 1 + 9) j = 0 := fun j => Z_z h (by omega) (by omega)
  have z14 : ∀ j, mem (y + 1 + 14) j = 0 := fun j => Z_z h (by omega) (by omega)
  have z0 : ∀ j, mem (y + 1) j = 0 := fun j => Z_z h (c := 0) (by omega) (by omega)
  have k2 : B_k2 mem y = N_k6 N_v0 := by
    have e7 : (if (0 : Int) = 0 then (-1004 : Int) else 0) = -1004 := rfl
    have e8 : (if (999 : Int) < 0 then (-1004 : Int) else 0) = 0 := rfl
    unfold B_k2 B_k1
    rw [z0, z0, z0, Z_tgR h, Z_lvR h, Z_z h (c := 6) (j := 2) (by omega) (by omega), Z_z h (c := 15) (j := 4) (by omega) (by omega)]
    simp only [B_cf, B_tk, z9, z14]
    unfold N_k6 N_k5 N_k4 N_k3 N_k2 N_k1
    rw [Z_tgN]
    simp only [N_v0_z (show 9 ≤ 11 by omega) (show 11 ≠ 10 by omega)]
    rw [Z_lvN]
    rfl
  unfold B_ck N_ck N_k8 N_k7
  have e3 : B_k3 mem y = B_cf (N_k6 N_v0) (fun k => N_ou N_v0 ((k : Int) + 1)) 64 := by
    unfold B_k3
    rw [k2]
    exact B_cf_c 64 (fun j _ => Z_ou h _)
  have e4 : B_k4 mem y = B_cf (B_cf (N_k6 N_v0) (fun k => N_ou N_v0 ((k : Int) + 1)) 64) (fun k => N_ki N_v0 ((k : Int) + 1)) 16 := by
    unfold B_k4
    rw [e3]
    exact B_cf_c 16 (fun j _ => Z_ki h _)
  rw [e4]
  refine B_cf_c 100 (fun j hj => ?_)
  show B_ss mem y (j : Int) = N_v0 (30 + (j : Int)).toNat
  unfold B_ss
  rw [Z_st h.R, N_v0_z (by omega) (by omega)]
  split <;> first | rfl | (rename_i hh; exact absurd (show B_isF (j : Int) from ⟨by omega, by omega⟩) hh)
end

theorem ja_LM_c {lay lay' : ja_Y} {m : Nat} (h : ∀ q, m ≤ q → q < m + 9 → lay' q = lay q) (hM : ja_LM lay m) : ja_LM lay' m := by
  unfold ja_LM
  rw [h m (by omega) (by omega), h (m + 1) (by omega) (by omega), h (m + 2) (by omega) (by omega), h (m + 3) (by omega) (by omega), h (m + 4) (by omega) (by omega), h (m + 5) (by omega) (by omega), h (m + 6) (by omega) (by omega), h (m + 7) (by omega) (by omega), h (m + 8) (by omega) (by omega)]
  exact hM
/-- a boolean argument out of the script -/
theorem r_bool {C : ja_C} {own : String} {cc : ByteArray} {nl : Nat} {rm : Room} {cells slots n pc : Nat} {lay : ja_Y} {mem : ja_M} {ls : List (Option Value)} {st : List Value} (F : ja_F C own cc nl rm) {x : Int} (hx : ja_in x) {o1 o2 : Int} {t1 t2 : Nat} (d1 : decode cc pc = .ok (.ifCond .eq o1, 3)) (h1 : (pc : Int) + o1 = (t1 : Int)) (d2 : decode cc (pc + 3) = .ok (.iconst 1, 1)) (d3 : decode cc (pc + 3 + 1) = .ok (.goto o2, 3)) (h3 : ((pc + 3 + 1 : Nat) : Int) + o2 = (t2 : Int)) (d4 : decode cc t1 = .ok (.iconst 0, 1)) (h4 : t1 + 1 = t2) (k : ja_W C cells slots lay mem n t2 ls (.int (ja_I (ja_b (¬ x = 0))) :: st)) : ja_W C cells slots lay mem n pc ls (.int (ja_I x) :: st) := by
  refine r_if_eq F hx d1 rfl h1 (fun h => ?_) (fun h => ?_)
  · refine r_iconst F d4 h4 ?_
    have e : ja_b (¬ x = 0) = 0 := if_neg (fun q => q h)
    rw [e] at k
    exact k
  · refine r_iconst F d2 rfl (r_goto F d3 h3 ?_)
    have e : ja_b (¬ x = 0) = 1 := if_pos h
    rw [e] at k
    exact k
theorem J_and63 (x : Int32) : 0 ≤ (x &&& ja_I 63).toInt ∧ (x &&& ja_I 63).toInt ≤ 63 := by
  have h : (x &&& ja_I 63).toInt = ((x.toBitVec &&& 63#32).toNat : Int) := by
    have h1 : (x &&& ja_I 63).toBitVec = x.toBitVec &&& 63#32 := by rw [Int32.toBitVec_and]; rfl
    show (x &&& ja_I 63).toBitVec.toInt = _
    rw [h1, BitVec.toInt_eq_toNat_of_lt]
    rw [BitVec.toNat_and]
    have := @Nat.and_le_right x.toBitVec.toNat (63#32).toNat
    have e : (63#32).toNat = 63 := rfl
    omega
  rw [h, BitVec.toNat_and]
  have := @Nat.and_le_right x.toBitVec.toNat (63#32).toNat
  have e : (63#32).toNat = 63 := rfl
  omega
