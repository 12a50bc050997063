-- THE FRAMES OF BOTH
def S_f : S_T := fun mem b v => (∀ k c : Nat, (c : Int) < N_ar v → N_ar v * k + c ≤ 999 → (J_b (ja_L (mem (b + 4) k)) c = true ↔ v (30 + (N_ar v * k + c)).toNat = 2) ∧ (J_b (ja_L (mem (b + 3) k)) c = true ↔ 0 < v (30 + (N_ar v * k + c)).toNat)) ∧ ∀ r k i : Int, 0 ≤ r → r ≤ 1 → N_hP v r k i → (F_and (mem (b + 5) k.toNat) (F_pb r i) = 0 ↔ ¬ v (N_pk v r k i).toNat = 1)
theorem ja_L0 : ja_L 0 = 0 := rfl
theorem blk_inj {a k k' c c' : Int} (hc : 0 ≤ c ∧ c < a) (hc' : 0 ≤ c' ∧ c' < a) (h : a * k + c = a * k' + c') : k = k' ∧ c = c' := by
  have e1 : (a * k + c) / a = k := by
    rw [Int.add_comm, Int.add_mul_ediv_left _ _ (by omega), Int.ediv_eq_zero_of_lt hc.1 hc.2]
    omega
  have e2 : (a * k' + c') / a = k' := by
    rw [Int.add_comm, Int.add_mul_ediv_left _ _ (by omega), Int.ediv_eq_zero_of_lt hc'.1 hc'.2]
    omega
  have e3 : k = k' := by rw [← e1, ← e2, h]
  subst e3
  exact ⟨rfl, by omega⟩
/-- a frame's block and cell -/
theorem blk_of {a x : Int} (ha : 0 < a) (hx : 0 ≤ x) : ∃ k c : Nat, x / a = (k : Int) ∧ x % a = (c : Int) ∧ (c : Int) < a ∧ x = a * k + c := by
  have h1 := Int.ediv_nonneg hx (by omega : 0 ≤ a)
  have h2 := Int.emod_nonneg x (by omega : a ≠ 0)
  have h3 := Int.emod_lt_of_pos x ha
  have h4 := Int.mul_ediv_add_emod x a
  refine ⟨(x / a).toNat, (x % a).toNat, by omega, by omega, by omega, ?_⟩
  rw [show (((x / a).toNat : Nat) : Int) = x / a by omega, show (((x % a).toNat : Nat) : Int) = x % a by omega]
  exact h4.symm
theorem S_f_cg {mem mem' : ja_M} {b : Nat} {v v' : Nat → Int} (hS : N_S v) (hm : ∀ q, b + 3 ≤ q → q ≤ b + 5 → mem' q = mem q) (hv : ∀ j, (j < 9 ∨ (30 ≤ j ∧ j < 2054)) → v' j = v j) (h : S_f mem b v) : S_f mem' b v' := by
  have ss : N_ss v v' := fun j hj => hv j (Or.inl hj)
  obtain ⟨h1, h2⟩ := h
  refine ⟨fun k c hc hx => ?_, fun r k i r0 r1 hP => ?_⟩
  · rw [ss.ar] at hc hx ⊢
    have har := N_ar_in hS
    have h0 := Int.mul_nonneg (by omega : 0 ≤ N_ar v) (by omega : 0 ≤ (k : Int))
    rw [hm _ (by omega) (by omega), hm _ (by omega) (by omega), hv _ (by omega)]
    exact h1 k c hc hx
  · have hP2 := ss.hP.mp hP
    have hp := N_pk_in (r := r) hS hP2.1 (N_hP_6 hS hP2)
    rw [hm _ (by omega) (by omega), ss.pk, hv _ (by omega)]
    exact h2 r k i r0 r1 hP2
theorem F_st_v {mem : ja_M} {b : Nat} {v : Nat → Int} (hR : N_R v) (hs : ∀ j, j < 9 → mem (b + 1) j = v j) (h : S_f mem b v) {x : Int} (hx : 0 ≤ x ∧ x ≤ 999) : F_st mem (b + 1) (b + 2) x = v (30 + x).toNat := by
  have har := N_ar_in hR.S
  have hc := S_b_cells hs
  obtain ⟨k, c, e1, e2, e3, e4⟩ := blk_of (by omega : 0 < N_ar v) hx.1
  obtain ⟨a1, a2⟩ := h.1 k c e3 (by omega)
  rw [← e4] at a1 a2
  have hF := hR.F (j := (30 + x).toNat) (by omega) (by omega)
  unfold F_st
  rw [hc, e1, e2, show b + 2 + 2 = b + 4 from rfl, show b + 2 + 1 = b + 3 from rfl, show ((k : Nat) : Int).toNat = k from rfl]
  have b1 := J_b_shr (ja_L (mem (b + 4) k)) (z := (c : Int)) rfl (by omega)
  have b2 := J_b_shr (ja_L (mem (b + 3) k)) (z := (c : Int)) rfl (by omega)
  by_cases q1 : J_b (ja_L (mem (b + 4) k)) c = true
  · rw [if_neg (fun q => by rw [b1.mp q] at q1; cases q1)]
    exact (a1.mp q1).symm
  · rw [if_pos (b1.mpr (by cases hb : J_b (ja_L (mem (b + 4) k)) c with | false => rfl | true => exact absurd hb q1))]
    have n2 : ¬ v (30 + x).toNat = 2 := fun q => q1 (a1.mpr q)
    by_cases q2 : J_b (ja_L (mem (b + 3) k)) c = true
    · rw [if_neg (fun q => by rw [b2.mp q] at q2; cases q2)]
      have := a2.mp q2
      omega
    · rw [if_pos (b2.mpr (by cases hb : J_b (ja_L (mem (b + 3) k)) c with | false => rfl | true => exact absurd hb q2))]
      have : ¬ 0 < v (30 + x).toNat := fun q => q2 (a2.mpr q)
      omega
theorem F_kn_K {mem : ja_M} {b : Nat} {v : Nat → Int} {k : Int} (hS : N_S v) (hs : ∀ j, j < 9 → mem (b + 1) j = v j) (hk : N_hB v k) (h : S_f mem b v) : K_b v k (F_kn mem (b + 1) (b + 2) k) := by
  intro c hc
  have har := N_ar_in hS
  have hcl := S_b_cells hs
  have hb := N_bk hS hk
  have hkn : ((k.toNat : Nat) : Int) = k := by omega
  have a2 := fun q => (h.1 k.toNat c hc q).2
  rw [hkn] at a2
  unfold F_kn F_bey
  rw [hcl, Int.mul_comm k, show b + 2 + 1 = b + 3 from rfl, J_b_or, Bool.or_eq_true]
  have hbey : J_b (if 1000 - N_ar v * k < 64 then ja_shl (-1) (1000 - N_ar v * k) else 0) c = true ↔ 999 < N_ar v * k + c := by
    by_cases h6 : 1000 - N_ar v * k < 64
    · obtain ⟨e, he⟩ : ∃ e : Nat, 1000 - N_ar v * k = (e : Int) := ⟨(1000 - N_ar v * k).toNat, by omega⟩
      rw [if_pos h6, J_b_shl _ he (by omega), J_b_m1]
      simp only [Bool.and_eq_true, decide_eq_true_eq, Bool.not_eq_true', decide_eq_false_iff_not]
      omega
    · rw [if_neg h6, J_b_zero]
      constructor
      · intro q
        cases q
      · intro q
        omega
  rw [hbey]
  by_cases h9 : 999 < N_ar v * k + c
  · exact ⟨fun _ => Or.inl h9, fun _ => Or.inr h9⟩
  · rw [a2 (by omega)]
    constructor
    · rintro (q | q)
      · exact Or.inr q
      · exact absurd q h9
    · rintro (q | q)
      · exact absurd q h9
      · exact Or.inl q
theorem J_ct_n (P : Nat → Bool) : ∀ n : Nat, J_ct P n ≤ n
  | 0 => Nat.le_refl _
  | n + 1 => by
    have h1 := J_ct_n P n
    have h2 := J_le1 (p := true) (q := P n) (fun _ => rfl)
    rw [J_t1] at h2
    rw [J_ct_s]
    omega
/-- restoring a block, given any packets -/
theorem F_cp_S {mem : ja_M} {b : Nat} {v : Nat → Int} {p a k : Int} (hSO : ja_SO mem (b + 1)) (hR : N_R v) (hs : ∀ j, j < 9 → mem (b + 1) j = v j) (hk : N_hB v k) (h : S_f mem b v) (hp : ∀ r j : Int, 0 ≤ r → r ≤ 1 → 0 ≤ j → j < F_cn mem (b + 1) r → (F_and p (F_pb r j) = 0 ↔ ¬ (¬ a = 0 ∨ v (N_pk v r k j).toNat = 1))) : F_go k v (F_kn mem (b + 1) (b + 2) k) (N_rs a k 40 0 v).2 (F_cp mem (b + 1) p 37 (F_kn mem (b + 1) (b + 2) k)) (N_rs a k 40 0 v).1 := by
  have har := N_ar_in hR.S
  have hz : J_Z (N_ar v).toNat (F_kn mem (b + 1) (b + 2) k) ≤ (N_ar v).toNat := J_ct_n _ _
  obtain ⟨d, d1, d2⟩ := F_cp_N hSO 37 40 v (F_kn mem (b + 1) (b + 2) k) 0 ⟨hR.S, hk, hs, hp, F_kn_K hR.S hs hk h⟩ (by omega) (by omega)
  rw [Int.zero_add] at d1
  rw [d1]
  exact d2
theorem F_new {v : Nat → Int} {w : Nat → Int} {x y : Int64} {k d : Int} (hS : N_S v) (hk : N_hB v k) (h : F_go k v x w y d) : J_bc (y &&& (x ^^^ (-1))) = d := by
  obtain ⟨-, -, g3, g4, g5⟩ := h
  have har := N_ar_in hS
  have h1 : J_ct (J_b (y &&& (x ^^^ (-1)))) 64 = J_ct (J_b (y &&& (x ^^^ (-1)))) (N_ar v).toNat := by
    have := J_ct_tail (P := J_b (y &&& (x ^^^ (-1)))) (n := (N_ar v).toNat) (fun c hc => by
      rw [J_b_and, J_b_not, g5 c (by omega)]
      cases J_b x c with
      | false => rfl
      | true => rw [Bool.not_true, Bool.and_false, Bool.and_false]) (64 - (N_ar v).toNat)
    rw [show (N_ar v).toNat + (64 - (N_ar v).toNat) = 64 by omega] at this
    exact this
  have h2 : J_Z (N_ar v).toNat x = J_Z (N_ar v).toNat y + J_ct (J_b (y &&& (x ^^^ (-1)))) (N_ar v).toNat := J_ct_add _ (fun c hc => by
    rw [J_b_and, J_b_not, decide_eq_true (by omega : c < 64)]
    have := g4 c
    cases hx : J_b x c with
    | false => cases J_b y c <;> rfl
    | true =>
      rw [this hx]
      rfl)
  rw [J_bc_ct, h1]
  omega
theorem R_rs_N {mem : ja_M} {b : Nat} {v : Nat → Int} {k : Int} (hSO : ja_SO mem (b + 1)) (hR : N_R v) (hs : ∀ j, j < 9 → mem (b + 1) j = v j) (hk : N_hB v k) (h : S_f mem b v) : S_f (R_rs mem b k) b (N_rs 0 k 40 0 v).2 ∧ R_rn mem b k = (N_rs 0 k 40 0 v).1 := by
  have har := N_ar_in hR.S
  have hb := N_bk hR.S hk
  have hg := F_cp_S (p := mem (b + 5) k.toNat) (a := 0) hSO hR hs hk h (fun r j r0 r1 j0 j1 => by
    rw [h.2 r k j r0 r1 ⟨hk, j0, by unfold F_cn at j1; rw [hs 3 (by omega), hs 4 (by omega)] at j1; omega⟩]
    constructor
    · rintro q (q2 | q2)
      · exact q2 rfl
      · exact q q2
    · intro q q2
      exact q (Or.inr q2))
  refine ⟨?_, F_new hR.S hk hg⟩
  obtain ⟨⟨g1, g0⟩, g2, g3, g4, g5⟩ := hg
  have e3 : R_rs mem b k (b + 3) = fun j => if j = k.toNat then (F_re mem (b + 1) (b + 2) k).toInt else mem (b + 3) j := by
    funext j
    unfold R_rs
    rw [show b + 2 + 1 = b + 3 from rfl]
    by_cases hj : j = k.toNat
    · rw [if_pos hj, hj, ja_up_s]
    · rw [if_neg hj, ja_up_j hj]
  refine ⟨fun k' c hc hx => ?_, fun r k' i r0 r1 hP => ?_⟩
  · rw [g1.ss.ar] at hc hx ⊢
    have h0 := Int.mul_nonneg (by omega : 0 ≤ N_ar v) (by omega : 0 ≤ (k' : Int))
    obtain ⟨a1, a2⟩ := h.1 k' c hc hx
    have hj := g0 (30 + (N_ar v * k' + c)).toNat
    have hm := g1.2.1 (30 + (N_ar v * k' + c)).toNat
    have hF := hR.F (j := (30 + (N_ar v * k' + c)).toNat) (by omega) (by omega)
    refine ⟨?_, ?_⟩
    · rw [R_rs_o (by omega), a1]
      omega
    · rw [e3]
      by_cases hkk : k' = k.toNat
      · have hkn : (k' : Int) = k := by omega
        dsimp only
        rw [if_pos hkk, ja_L_toInt, hkn, show F_re mem (b + 1) (b + 2) k = F_cp mem (b + 1) (mem (b + 5) k.toNat) 37 (F_kn mem (b + 1) (b + 2) k) from rfl, g2 c (by rw [g1.ss.ar]; exact hc), g1.ss.ar]
        rw [hkn] at hx
        unfold N_kn
        constructor
        · rintro (q | q)
          · omega
          · exact q
        · exact Or.inr
      · dsimp only
        rw [if_neg hkk, a2]
        rcases hj with hj | ⟨hj, c2, c3, c4⟩
        · rw [hj]
        · have := blk_inj (a := N_ar v) (k := (k' : Int)) (k' := k) (c := (c : Int)) (c' := (c2 : Int)) ⟨by omega, hc⟩ ⟨by omega, c3⟩ (by omega)
          omega
  · have hP2 := g1.ss.hP.mp hP
    have hp := N_pk_in (r := r) hR.S hP2.1 (N_hP_6 hR.S hP2)
    rw [R_rs_o (by omega), g1.ss.pk, g1.1 _ (by omega)]
    exact h.2 r k' i r0 r1 hP2
/-- a frame arrives, one that isn't known -/
theorem F_ad_N {mem : ja_M} {b : Nat} {v : Nat → Int} {x : Int} (hS : N_S v) (hs : ∀ j, j < 9 → mem (b + 1) j = v j) (hx : 0 ≤ x ∧ x ≤ 999) (h : S_f mem b v) : S_f (F_ad mem (b + 1) (b + 2) x) b (ja_rs v (30 + x).toNat 2) := by
  have har := N_ar_in hS
  have hcl := S_b_cells hs
  have ss : N_ss v (ja_rs v (30 + x).toNat 2) := fun j hj => ja_rs_n (by omega)
  obtain ⟨k, c, e1, e2, e3, e4⟩ := blk_of (by omega : 0 < N_ar v) hx.1
  have r4 : F_ad mem (b + 1) (b + 2) x (b + 4) = fun j => if j = k then (ja_L (mem (b + 4) k) ||| ja_shl 1 (c : Int)).toInt else mem (b + 4) j := by
    funext j
    unfold F_ad
    rw [hcl, e1, e2, show b + 2 + 2 = b + 4 from rfl, show ((k : Nat) : Int).toNat = k from rfl, ja_up_a (by omega)]
    by_cases hj : j = k
    · rw [if_pos hj, hj, ja_up_s]
    · rw [if_neg hj, ja_up_j hj]
  have r3 : F_ad mem (b + 1) (b + 2) x (b + 3) = fun j => if j = k then (ja_L (mem (b + 3) k) ||| ja_shl 1 (c : Int)).toInt else mem (b + 3) j := by
    funext j
    unfold F_ad
    rw [hcl, e1, e2, show b + 2 + 1 = b + 3 from rfl, show ((k : Nat) : Int).toNat = k from rfl]
    by_cases hj : j = k
    · rw [if_pos hj, hj, ja_up_s]
    · rw [if_neg hj, ja_up_j hj, ja_up_a (by omega)]
  have hbit : ∀ (z : Int) (c' : Nat), (c' : Int) < N_ar v → (J_b (ja_L (ja_L z ||| ja_shl 1 (c : Int)).toInt) c' = true ↔ J_b (ja_L z) c' = true ∨ c' = c) := fun z c' hc' => by
    rw [ja_L_toInt, J_b_or, Bool.or_eq_true, J_b_shl _ rfl (by omega), J_b_one]
    simp only [Bool.and_eq_true, decide_eq_true_eq, Bool.not_eq_true', decide_eq_false_iff_not]
    exact or_congr Iff.rfl ⟨fun q => by omega, fun q => by omega⟩
  refine ⟨fun k' c' hc hx2 => ?_, fun r k' i r0 r1 hP => ?_⟩
  · rw [ss.ar] at hc hx2 ⊢
    have h0 := Int.mul_nonneg (by omega : 0 ≤ N_ar v) (by omega : 0 ≤ (k' : Int))
    obtain ⟨a1, a2⟩ := h.1 k' c' hc hx2
    rw [r4, r3]
    dsimp only
    by_cases hkk : k' = k
    · subst hkk
      rw [if_pos rfl, if_pos rfl, hbit _ _ hc, hbit _ _ hc]
      by_cases hcc : c' = c
      · subst hcc
        rw [← e4, ja_rs_s]
        exact ⟨⟨fun _ => rfl, fun _ => Or.inr rfl⟩, ⟨fun _ => by decide, fun _ => Or.inr rfl⟩⟩
      · rw [ja_rs_n (by omega), a1, a2]
        exact ⟨⟨fun q => q.elim id (fun q => absurd q hcc), Or.inl⟩, ⟨fun q => q.elim id (fun q => absurd q hcc), Or.inl⟩⟩
    · rw [if_neg hkk, if_neg hkk, ja_rs_n (fun q => hkk (by
        have := blk_inj (a := N_ar v) (k := (k' : Int)) (k' := (k : Int)) (c := (c' : Int)) (c' := (c : Int)) ⟨by omega, hc⟩ ⟨by omega, e3⟩ (by omega)
        omega))]
      exact ⟨a1, a2⟩
  · have hP2 := ss.hP.mp hP
    have hp := N_pk_in (r := r) hS hP2.1 (N_hP_6 hS hP2)
    rw [F_ad_o ⟨by omega, by omega⟩, ss.pk, ja_rs_n (by omega)]
    exact h.2 r k' i r0 r1 hP2
theorem N_pk_inj {v : Nat → Int} {r k i r' k' i' : Int} (hS : N_S v) (hP : N_hP v r k i) (hP' : N_hP v r' k' i') (hr : 0 ≤ r ∧ r ≤ 1) (hr' : 0 ≤ r' ∧ r' ≤ 1) (h : N_pk v r k i = N_pk v r' k' i') : r = r' ∧ k = k' ∧ i = i' := by
  have hb := N_bk hS hP.1
  have hb' := N_bk hS hP'.1
  obtain ⟨-, -, -, s3, s4, -⟩ := hS
  obtain ⟨-, i0, i1⟩ := hP
  obtain ⟨-, i0', i1'⟩ := hP'
  unfold N_pk at h
  by_cases hq : r = 0
  · rw [if_pos hq] at h i1
    by_cases hq' : r' = 0
    · rw [if_pos hq'] at h i1'
      have := blk_inj (a := v 3) (k := k) (k' := k') (c := i) (c' := i') ⟨i0, by omega⟩ ⟨i0', by omega⟩ (by omega)
      omega
    · rw [if_neg hq'] at h i1'
      omega
  · rw [if_neg hq] at h i1
    by_cases hq' : r' = 0
    · rw [if_pos hq'] at h i1'
      omega
    · rw [if_neg hq'] at h i1'
      have := blk_inj (a := v 4) (k := k) (k' := k') (c := i) (c' := i') ⟨i0, by omega⟩ ⟨i0', by omega⟩ (by omega)
      omega
/-- a packet arrives -/
theorem F_ap_N {mem : ja_M} {b : Nat} {v : Nat → Int} {r k i : Int} (hS : N_S v) (hr : 0 ≤ r ∧ r ≤ 1) (hP : N_hP v r k i) (h : S_f mem b v) : S_f (F_ap mem (b + 2) r k i) b (ja_rs v (N_pk v r k i).toNat 1) := by
  have har := N_ar_in hS
  have hpk := N_pk_in (r := r) hS hP.1 (N_hP_6 hS hP)
  have hb := N_bk hS hP.1
  have ss : N_ss v (ja_rs v (N_pk v r k i).toNat 1) := fun j hj => ja_rs_n (by omega)
  have r5 : F_ap mem (b + 2) r k i (b + 5) = fun j => if j = k.toNat then F_or (mem (b + 5) k.toNat) (F_pb r i) else mem (b + 5) j := by
    funext j
    unfold F_ap
    rw [show b + 2 + 3 = b + 5 from rfl]
    by_cases hj : j = k.toNat
    · rw [if_pos hj, hj, ja_up_s]
    · rw [if_neg hj, ja_up_j hj]
  refine ⟨fun k' c' hc hx2 => ?_, fun r' k' i' r0 r1 hP' => ?_⟩
  · rw [ss.ar] at hc hx2 ⊢
    have h0 := Int.mul_nonneg (by omega : 0 ≤ N_ar v) (by omega : 0 ≤ (k' : Int))
    rw [F_ap_o (by omega), F_ap_o (by omega), ja_rs_n (by omega)]
    exact h.1 k' c' hc hx2
  · have hP2 := ss.hP.mp hP'
    have hpk2 := N_pk_in (r := r') hS hP2.1 (N_hP_6 hS hP2)
    have hb2 := N_bk hS hP2.1
    have a1 := h.2 r' k' i' r0 r1 hP2
    obtain ⟨-, -, -, s3, s4, -⟩ := id hS
    have g := F_pe_in (r := r) (i := i) s3 s4 ⟨hP.2.1, by have := hP.2.2; omega⟩
    have g' := F_pe_in (r := r') (i := i') s3 s4 ⟨hP2.2.1, by have := hP2.2.2; omega⟩
    obtain ⟨e, he⟩ : ∃ e : Nat, F_pe r i = (e : Int) := ⟨(F_pe r i).toNat, by omega⟩
    obtain ⟨e', he'⟩ : ∃ e : Nat, F_pe r' i' = (e : Int) := ⟨(F_pe r' i').toNat, by omega⟩
    rw [r5, ss.pk]
    dsimp only
    by_cases hsame : N_pk v r' k' i' = N_pk v r k i
    · obtain ⟨q1, q2, q3⟩ := N_pk_inj hS hP2 hP ⟨r0, r1⟩ hr hsame
      subst q1; subst q2; subst q3
      rw [if_pos rfl, ja_rs_s, F_and_b he (by omega), F_or_b he (by omega), decide_eq_true rfl, Bool.or_true]
      exact ⟨fun q => (by cases q), fun q => absurd rfl q⟩
    · rw [ja_rs_n (by omega)]
      by_cases hkk : k'.toNat = k.toNat
      · rw [if_pos hkk, F_and_b he' (by omega), F_or_b he (by omega)]
        have hne : ¬ e' = e := fun q => hsame (by
          have hkk2 : k' = k := by omega
          subst hkk2
          have hpe : F_pe r' i' = F_pe r i := by omega
          unfold F_pe at hpe
          unfold N_pk
          by_cases z : r = 0
          · by_cases z' : r' = 0
            · rw [if_pos z, if_pos z'] at hpe ⊢
              omega
            · have := g.2.2.1 z
              have := g'.2.2.2 z'
              omega
          · by_cases z' : r' = 0
            · have := g.2.2.2 z
              have := g'.2.2.1 z'
              omega
            · rw [if_neg z, if_neg z'] at hpe ⊢
              omega)
        rw [decide_eq_false hne, Bool.or_false, ← hkk, ← F_and_b he' (by omega)]
        exact a1
      · rw [if_neg hkk]
        exact a1
