-- lines of the fresh state: none lacks just one frame
def Z_zx (k : Int) : Int64 := ja_L 0 ||| (if 1000 - k * 16 < 64 then ja_shl (-1) (1000 - k * 16) else 0)
abbrev Z_4 : ja_M := fun _ _ => 4
set_option maxRecDepth 100000 in
theorem Z_all : ∀ (k : Fin 63) (i : Fin 4), (J_bc (F_lb Z_4 0 0 (i.val : Int) &&& (Z_zx (k.val : Int) ^^^ (-1))) = N_mi N_v0 0 (k.val : Int) (i.val : Int) 4 ∧ ¬ N_mi N_v0 0 (k.val : Int) (i.val : Int) 4 = 1) ∧ (J_bc (F_lb Z_4 0 1 (i.val : Int) &&& (Z_zx (k.val : Int) ^^^ (-1))) = N_mi N_v0 1 (k.val : Int) (i.val : Int) 4 ∧ ¬ N_mi N_v0 1 (k.val : Int) (i.val : Int) 4 = 1) := by decide +kernel
set_option maxRecDepth 100000 in
theorem Z_unr : ∀ (k : Fin 63), J_bc ((ja_shl 1 16 - 1) &&& (Z_zx (k.val : Int) ^^^ (-1))) = ((N_un N_v0 (16 * (k.val : Int)) 16 : Nat) : Int) := by decide +kernel
theorem Z_line {r k i : Int} (hr : 0 ≤ r ∧ r ≤ 1) (hk : 0 ≤ k ∧ k ≤ 62) (hi : 0 ≤ i ∧ i ≤ 3) : J_bc (F_lb Z_4 0 r i &&& (Z_zx k ^^^ (-1))) = N_mi N_v0 r k i 4 ∧ ¬ N_mi N_v0 r k i 4 = 1 := by
  obtain ⟨h0, h1⟩ := Z_all ⟨k.toNat, by omega⟩ ⟨i.toNat, by omega⟩
  rw [show ((k.toNat : Nat) : Int) = k by omega, show ((i.toNat : Nat) : Int) = i by omega] at h0 h1
  rcases (show r = 0 ∨ r = 1 by omega) with rfl | rfl
  · exact h0
  · exact h1
theorem F_lbc_c {cols i : Int} (h : cols = 4) : ∀ k, F_lbc cols i k = F_lbc 4 i k := fun k => by rw [h]
theorem Z_lb {mem : ja_M} {s : Nat} (h3 : mem s 3 = 4) (h4 : mem s 4 = 4) (r i : Int) : F_lb mem s r i = F_lb Z_4 0 r i := by
  unfold F_lb
  rw [h3, h4]
theorem Z_knx {mem : ja_M} {b : Nat} (h : Z_R mem b) (k : Int) : F_kn mem (b + 1) (b + 2) k = Z_zx k := by
  obtain ⟨-, -, -, s3, s4, -⟩ := h.1
  unfold F_kn F_bey Z_zx ja_cells
  rw [h.2 (b + 2 + 1) _ (by omega) (by omega) (by omega), s3, s4]
  rfl
theorem Z_wl {mem : ja_M} {s : Nat} {x : Int64} {p r i : Int} (h : ¬ J_bc (F_lb mem s r i &&& (x ^^^ (-1))) = 1) : F_wl mem s x p r i = x := by
  unfold F_wl
  by_cases hp : F_and p (F_pb r i) = 0
  · rw [if_pos hp]
  · rw [if_neg hp, if_neg h]
theorem Z_ln2 {mem : ja_M} {s : Nat} {p r : Int} {x : Int64} : ∀ n : Nat, (∀ j : Nat, j < n → ¬ J_bc (F_lb mem s r (j : Int) &&& (x ^^^ (-1))) = 1) → F_ln mem s p r x n = x
  | 0, _ => rfl
  | n + 1, h => by
    simp only [F_ln]
    rw [Z_ln2 n (fun j hj => h j (by omega))]
    exact Z_wl (h n (by omega))
/-- whatever packets there are, nothing is restored -/
theorem Z_rd {mem : ja_M} {s : Nat} {p k : Int} (h3 : mem s 3 = 4) (h4 : mem s 4 = 4) (hk : 0 ≤ k ∧ k ≤ 62) : F_rd mem s p (Z_zx k) = Z_zx k := by
  have key : ∀ r : Int, (0 ≤ r ∧ r ≤ 1) → F_ln mem s p r (Z_zx k) (4 : Int).toNat = Z_zx k := fun r hr => Z_ln2 _ (fun j hj => by
    rw [Z_lb h3 h4]
    have hz := Z_line (r := r) (i := (j : Int)) hr hk ⟨by omega, by omega⟩
    rw [hz.1]
    exact hz.2)
  unfold F_rd
  rw [h3, h4, key 1 (by omega), key 0 (by omega)]
theorem Z_hP {mem : ja_M} {b : Nat} (h : Z_R mem b) {r k i : Int} (hP : ja_hasP mem (b + 1) r k i) : (0 ≤ k ∧ k ≤ 62) ∧ 0 ≤ i ∧ i ≤ 3 := by
  obtain ⟨-, -, -, s3, s4, -⟩ := h.1
  obtain ⟨⟨h1, h2⟩, h3, h4⟩ := hP
  unfold ja_cells at h2
  rw [s3, s4] at h2
  have e : (999 : Int) / (4 * 4) = 62 := by decide
  rw [e] at h2
  rw [s3, s4] at h4
  exact ⟨⟨h1, h2⟩, h3, by split at h4 <;> omega⟩
theorem Z_pn {mem : ja_M} {b : Nat} (h : Z_R mem b) {r k i : Int} (hP : ja_hasP mem (b + 1) r k i) : R_pn mem b r k i = 0 := by
  obtain ⟨hk, hi⟩ := Z_hP h hP
  obtain ⟨-, -, -, s3, s4, -⟩ := h.1
  have e1 : R_pk mem b r k i (b + 1) = mem (b + 1) := by rw [R_pk, F_ap_o (by omega), R_so_o (by omega)]
  have e2 : R_pk mem b r k i (b + 2 + 1) = mem (b + 2 + 1) := by rw [R_pk, F_ap_o (by omega), R_so_o (by omega)]
  unfold R_pn
  split
  · refine Z_rn ?_
    have e3 : F_kn (R_pk mem b r k i) (b + 1) (b + 2) k = Z_zx k := by
      rw [← Z_knx h k]
      unfold F_kn F_bey ja_cells
      rw [e1, e2]
    rw [e3]
    exact Z_rd (by rw [e1]; exact s3) (by rw [e1]; exact s4) hk
  · rfl
-- the reference
theorem N_mi_c {v w : Nat → Int} {r k i : Int} (hs : N_ss v w) (hS : N_S v) (hk : N_hB v k) (hi : 0 ≤ i ∧ i ≤ 6) (hf : ∀ j, 30 ≤ j → j < 1030 → w j = v j) : ∀ c : Nat, c ≤ 6 → N_mi w r k i c = N_mi v r k i c
  | 0, _ => rfl
  | c + 1, hc => by
    have hcv := N_cv_in (r := r) (j := (c : Int)) hS hk hi ⟨by omega, by omega⟩
    simp only [N_mi]
    rw [N_mi_c hs hS hk hi hf c (by omega), hs.cv]
    have he : N_kn w (N_cv v r k i c) ↔ N_kn v (N_cv v r k i c) := by
      by_cases h9 : 999 < N_cv v r k i c
      · exact ⟨fun _ => Or.inl h9, fun _ => Or.inl h9⟩
      · unfold N_kn
        rw [hf _ (by omega) (by omega)]
    by_cases hq : N_kn v (N_cv v r k i c)
    · rw [if_pos hq, if_pos (he.mpr hq)]
    · rw [if_neg hq, if_neg (fun q => hq (he.mp q))]
theorem Z_rr2 {a : Int} {v : Nat → Int} {r k : Int} : ∀ n : Nat, (∀ j : Nat, j < n → ¬ N_mi v r k (j : Int) (N_cs v r).toNat = 1) → N_rr a v r k n = (0, v)
  | 0, _ => rfl
  | n + 1, h => by
    simp only [N_rr]
    rw [Z_rr2 n (fun j hj => h j (by omega))]
    have e1 : N_rn v r k (n : Int) = 0 := by rw [N_rn, if_neg (h n (by omega))]
    have e2 : N_rv v r k (n : Int) = v := by rw [N_rv, if_neg (h n (by omega))]
    split
    · dsimp only
      rw [e1, e2]
      rfl
    · rfl
theorem Z_rs2 {a : Int} {v : Nat → Int} {k : Int} (h1 : ∀ j : Nat, j < (v 4).toNat → ¬ N_mi v 1 k (j : Int) (N_cs v 1).toNat = 1) (h0 : ∀ j : Nat, j < (v 3).toNat → ¬ N_mi v 0 k (j : Int) (N_cs v 0).toNat = 1) : N_rs a k 40 0 v = (0, v) := by
  have e : N_rd a v k = (0, v) := by
    unfold N_rd
    rw [Z_rr2 _ h1]
    dsimp only
    rw [Z_rr2 _ h0]
    rfl
  simp only [N_rs]
  rw [e]
  rfl
theorem Z_hPN {r k i : Int} (hP : N_hP N_v0 r k i) : (0 ≤ k ∧ k ≤ 62) ∧ 0 ≤ i ∧ i ≤ 3 := by
  obtain ⟨⟨h1, h2⟩, h3, h4⟩ := hP
  have e : (999 : Int) / N_ar N_v0 = 62 := by decide
  rw [e] at h2
  exact ⟨⟨h1, h2⟩, h3, by split at h4 <;> (first | (have e3 : N_v0 3 = 4 := rfl; omega) | (have e4 : N_v0 4 = 4 := rfl; omega))⟩
theorem Z_hB62 {k : Int} (hk : 0 ≤ k ∧ k ≤ 62) : N_hB N_v0 k := by
  refine ⟨hk.1, ?_⟩
  have e : (999 : Int) / N_ar N_v0 = 62 := by decide
  omega
theorem Z_rs3 {a : Int} {w : Nat → Int} {k : Int} (hk : 0 ≤ k ∧ k ≤ 62) (hs : N_ss N_v0 w) (hf : ∀ j, 30 ≤ j → j < 1030 → w j = N_v0 j) : N_rs a k 40 0 w = (0, w) := by
  have e3 : w 3 = 4 := hs 3 (by omega)
  have e4 : w 4 = 4 := hs 4 (by omega)
  have key : ∀ (r : Int) (j : Nat), (0 ≤ r ∧ r ≤ 1) → j < 4 → ¬ N_mi w r k (j : Int) (N_cs w r).toNat = 1 := fun r j hr hj => by
    have ec : (N_cs w r).toNat = 4 := by
      unfold N_cs
      rw [e3, e4]
      split <;> rfl
    rw [ec, N_mi_c hs N_v0_R.S (Z_hB62 hk) ⟨by omega, by omega⟩ hf 4 (by omega)]
    exact (Z_line hr hk ⟨by omega, by omega⟩).2
  exact Z_rs2 (fun j hj => key 1 j (by omega) (by rw [e4] at hj; omega)) (fun j hj => key 0 j (by omega) (by rw [e3] at hj; omega))
theorem Z_qn {r k i : Int} (hP : N_hP N_v0 r k i) : N_qn N_v0 r k i = 0 := by
  obtain ⟨hk, hi⟩ := Z_hPN hP
  have hpk := N_pk_in (r := r) (i := i) N_v0_R.S (Z_hB62 hk) ⟨by omega, by omega⟩
  unfold N_qn
  split
  · rfl
  · rw [Z_rs3 hk]
    · intro j hj
      rw [N_qw, ja_rs_n (by omega), N_be_n (by omega)]
    · intro j h0 h1
      rw [N_qw, ja_rs_n (by omega), N_be_n (by omega)]
theorem Z_ur {mem : ja_M} {b : Nat} (h : Z_R mem b) {k : Int} (hk : 0 ≤ k ∧ k ≤ 62) : J_bc ((ja_shl 1 (ja_cells mem (b + 1)) - 1) &&& (F_cp mem (b + 1) (-1) 37 (F_kn mem (b + 1) (b + 2) k) ^^^ (-1))) = N_ur N_v0 k := by
  obtain ⟨-, -, -, s3, s4, -⟩ := h.1
  rw [Z_knx h, Z_cp (Z_rd s3 s4 hk)]
  have hz := Z_unr ⟨k.toNat, by omega⟩
  rw [show ((k.toNat : Nat) : Int) = k by omega] at hz
  unfold ja_cells N_ur
  rw [s3, s4, Z_rs3 hk N_ss.rf (fun _ _ _ => rfl), show (4 * 4 : Int) = 16 from rfl, show N_ar N_v0 = 16 by decide, hz]
  rfl
