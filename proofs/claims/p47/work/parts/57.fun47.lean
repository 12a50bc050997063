-- WHERE RESTORING ENDS
theorem N_rr_s (a : Int) (v : Nat → Int) (r k : Int) (j : Nat) : N_rr a v r k (j + 1) = if ¬ a = 0 ∨ (N_rr a v r k j).2 (N_pk v r k j).toNat = 1 then ((N_rr a v r k j).1 + N_rn (N_rr a v r k j).2 r k j, N_rv (N_rr a v r k j).2 r k j) else N_rr a v r k j := rfl
theorem N_rs_s (a k : Int) (f : Nat) (n : Int) (v : Nat → Int) : N_rs a k (f + 1) n v = if (N_rd a v k).1 = 0 then (n, (N_rd a v k).2) else N_rs a k f (n + (N_rd a v k).1) (N_rd a v k).2 := rfl
theorem N_rr_0 {v : Nat → Int} {r k : Int} (hS : N_S v) (hk : N_hB v k) : ∀ n : Nat, (n : Int) ≤ (if r = 0 then v 3 else v 4) → (N_rr 0 v r k n).1 = 0 → (N_rr 0 v r k n).2 = v ∧ ∀ j : Nat, j < n → v (N_pk v r k j).toNat = 1 → ¬ N_mi v r k j (N_cs v r).toNat = 1
  | 0, _, _ => ⟨rfl, fun j hj => by omega⟩
  | n + 1, hn, h => by
    have hu := (N_rr_un (a := 0) (r := r) hS hk n (by omega)).1
    rw [N_rr_s] at h ⊢
    by_cases hq : ¬ (0 : Int) = 0 ∨ (N_rr 0 v r k n).2 (N_pk v r k n).toNat = 1
    · rw [if_pos hq] at h ⊢
      have h01 := @N_rn_01 (N_rr 0 v r k n).2 r k n
      dsimp only at h ⊢
      obtain ⟨e1, e2⟩ := N_rr_0 (r := r) hS hk n (by omega) (by omega)
      rw [e1] at h h01 ⊢
      have hz : N_rn v r k n = 0 := by omega
      have hm : ¬ N_mi v r k n (N_cs v r).toNat = 1 := fun q => by
        unfold N_rn at hz
        rw [if_pos q] at hz
        exact absurd hz (by decide)
      refine ⟨by unfold N_rv; rw [if_neg hm], fun j hj hp => ?_⟩
      by_cases hjn : j = n
      · subst hjn
        exact hm
      · exact e2 j (by omega) hp
    · rw [if_neg hq] at h ⊢
      obtain ⟨e1, e2⟩ := N_rr_0 (r := r) hS hk n (by omega) h
      refine ⟨e1, fun j hj hp => ?_⟩
      by_cases hjn : j = n
      · subst hjn
        rw [e1] at hq
        exact absurd (Or.inr hp) hq
      · exact e2 j (by omega) hp
theorem N_rd_0 {v : Nat → Int} {k : Int} (hS : N_S v) (hk : N_hB v k) (h : (N_rd 0 v k).1 = 0) : (N_rd 0 v k).2 = v ∧ ∀ r j : Int, 0 ≤ r → r ≤ 1 → 0 ≤ j → j < (if r = 0 then v 3 else v 4) → v (N_pk v r k j).toNat = 1 → ¬ N_mi v r k j (N_cs v r).toNat = 1 := by
  obtain ⟨-, -, -, s3, s4, -⟩ := id hS
  have u1 := (N_rr_un (a := 0) (r := 1) hS hk (v 4).toNat (by rw [if_neg (by decide)]; omega)).1
  have f1 := N_rr_fr (a := 0) (r := 1) hS hk (v 4).toNat (by omega)
  have u0 := (N_rr_un (a := 0) (r := 0) (f1.ss.S hS) (f1.ss.hB.mpr hk) (v 3).toNat (by rw [if_pos rfl, f1.ss 3 (by omega)]; omega)).1
  unfold N_rd at h ⊢
  dsimp only at h ⊢
  obtain ⟨e1, e2⟩ := N_rr_0 (r := 1) hS hk (v 4).toNat (by rw [if_neg (by decide)]; omega) (by omega)
  rw [e1] at h u0 ⊢
  obtain ⟨e3, e4⟩ := N_rr_0 (r := 0) hS hk (v 3).toNat (by rw [if_pos rfl]; omega) (by omega)
  refine ⟨e3, fun r j r0 r1 j0 j1 hp => ?_⟩
  rcases (show r = 0 ∨ r = 1 by omega) with rfl | rfl
  · rw [if_pos rfl] at j1
    have := e4 j.toNat (by omega)
    rw [show ((j.toNat : Nat) : Int) = j by omega] at this
    exact this hp
  · rw [if_neg (by decide)] at j1
    have := e2 j.toNat (by omega)
    rw [show ((j.toNat : Nat) : Int) = j by omega] at this
    exact this hp
/-- no line whose packet arrived lacks exactly one frame -/
theorem N_rs_fix {k : Int} : ∀ (f : Nat) (n : Int) (v : Nat → Int), N_S v → N_hB v k → N_U v k < f → ∀ r j : Int, 0 ≤ r → r ≤ 1 → 0 ≤ j → j < (if r = 0 then v 3 else v 4) → (N_rs 0 k f n v).2 (N_pk v r k j).toNat = 1 → ¬ N_mi (N_rs 0 k f n v).2 r k j (N_cs v r).toNat = 1
  | 0, n, v, _, _, h => by omega
  | f + 1, n, v, hS, hk, h => by
    have hu := N_rd_un (a := 0) hS hk
    have hf := N_rd_fr (a := 0) hS hk
    intro r j r0 r1 j0 j1
    rw [N_rs_s]
    by_cases hz : (N_rd 0 v k).1 = 0
    · rw [if_pos hz]
      obtain ⟨e1, e2⟩ := N_rd_0 hS hk hz
      rw [e1]
      exact e2 r j r0 r1 j0 j1
    · rw [if_neg hz]
      have ih := N_rs_fix f (n + (N_rd 0 v k).1) (N_rd 0 v k).2 (hf.ss.S hS) (hf.ss.hB.mpr hk) (by omega) r j r0 r1 j0 (by rw [hf.ss 3 (by omega), hf.ss 4 (by omega)]; exact j1)
      rw [hf.ss.pk, hf.ss.cs] at ih
      exact ih
theorem N_rs_pos {v : Nat → Int} {r k j : Int} (hS : N_S v) (hk : N_hB v k) (hr : 0 ≤ r ∧ r ≤ 1) (hj : 0 ≤ j ∧ j < (if r = 0 then v 3 else v 4)) (hp : v (N_pk v r k j).toNat = 1) (hm : N_mi v r k j (N_cs v r).toNat = 1) : 0 < (N_rs 0 k 40 0 v).1 := by
  have hu := N_rd_un (a := 0) hS hk
  have hf := N_rd_fr (a := 0) hS hk
  rw [show (40 : Nat) = 39 + 1 from rfl, N_rs_s]
  by_cases hz : (N_rd 0 v k).1 = 0
  · exact absurd hm ((N_rd_0 hS hk hz).2 r j hr.1 hr.2 hj.1 hj.2 hp)
  · rw [if_neg hz]
    have := (N_rs_in (a := 0) (k := k) 39 (0 + (N_rd 0 v k).1) (N_rd 0 v k).2 (hf.ss.S hS) (hf.ss.hB.mpr hk)).1
    omega
