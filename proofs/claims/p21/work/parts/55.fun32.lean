-- reading leaves the text
theorem B_rd_x {mem : ja_M} {y : Nat} (hH : ja_HO mem (y + 42)) (hA : ja_AO mem (y + 44)) : (B_rd mem y).2 (y + 42) 1 = mem (y + 42) 1 ∧ (B_rd mem y).2 (y + 42 + 1) = mem (y + 42 + 1) := by
  obtain ⟨h1, h2, h3, h4, h5, h6⟩ := X_lp_all (f := mem (y + 42 + 1)) (x := y + 42) (o := y + 44) (ln := mem (y + 42) 1) (by omega) (mem (y + 42) 1).toNat 0 _ (HO_XO hH (by omega)) (AO_0 hA (by omega))
  exact ⟨h3.trans (by rw [ja_up_j (by omega), ja_up_a (by omega)]), (h2 _ (by omega) (by omega)).trans (by rw [ja_up_row (by omega), ja_up_row (by omega)])⟩
theorem B_sc_x {mem : ja_M} {y : Nat} (hH : ja_HO mem (y + 42)) (hA : ja_AO mem (y + 44)) : (B_sc mem y).2 (y + 42) 1 = mem (y + 42) 1 ∧ (B_sc mem y).2 (y + 42 + 1) = mem (y + 42 + 1) := by
  have hr := B_rd_x hH hA
  unfold B_sc
  split
  · split
    · exact hr
    · split
      · exact hr
      · dsimp only
        rw [A_all_o (by omega), A_all_o (by omega)]
        exact hr
  · exact hr
theorem N_TO_c {G M : ja_M} {m : Nat} (h0 : M m 5 = G m 5) (h5 : M (m + 5) = G (m + 5)) (h : N_TO G m) : N_TO M m := by
  unfold N_TO
  rw [h0, h5]
  exact h
/-- a step of the text -/
theorem In_text {S : S_T} (hS : S_ok S) {lay : ja_Y} {mem : ja_M} {n y : Nat} {sl : Nat → Option Nat} {t : Int} (h : L_In S lay mem n y sl t) {M1 G' : ja_M} (c1 : ∀ q, (q < y + 42 ∨ y + 44 ≤ q) → M1 q = mem q) (cH : ja_HO M1 (y + 42)) (hG : ∀ q, q ≠ y + 49 → q ≠ y + 49 + 5 → G' q = M1 q) (hT : N_TO G' (y + 49)) (hx : L_x M1 y G' (y + 49)) : L_In S lay (ja_rw G' (y + 49 + 1) (mem (y + 49 + 1))) n y sl (t + 500) := by
  obtain ⟨⟨a1, a2, a3, a4, a5⟩, ⟨b1, b2, b3, b4, b5⟩, hTt, -, hsl⟩ := h
  obtain ⟨cg, -⟩ := hS
  have f1 : ∀ q, q ≠ y + 49 → q ≠ y + 49 + 1 → q ≠ y + 49 + 5 → ja_rw G' (y + 49 + 1) (mem (y + 49 + 1)) q = M1 q := fun q d0 d1 d5 => by rw [ja_rw_n d1]; exact hG q d0 d5
  have f2 : ∀ q, (q < y + 42 ∨ y + 44 ≤ q) → q ≠ y + 49 → q ≠ y + 49 + 1 → q ≠ y + 49 + 5 → ja_rw G' (y + 49 + 1) (mem (y + 49 + 1)) q = mem q := fun q d d0 d1 d5 => (f1 q d0 d1 d5).trans (c1 q d)
  have f5 : ja_rw G' (y + 49 + 1) (mem (y + 49 + 1)) (y + 49) = G' (y + 49) := ja_rw_n (by omega)
  have k5 : ja_rw G' (y + 49 + 1) (mem (y + 49 + 1)) (y + 49 + 5) = G' (y + 49 + 5) := ja_rw_n (by omega)
  have k3 := f2 (y + 49 + 3) (by omega) (by omega) (by omega) (by omega)
  have k4 := f2 (y + 49 + 4) (by omega) (by omega) (by omega) (by omega)
  obtain ⟨h1, ⟨t2, h2⟩, h3, h4, h5⟩ := a2
  refine ⟨⟨a1, ⟨ja_RO_all (fun q d1 d2 => f2 q (by omega) (by omega) (by omega) (by omega)) (h1.mono (by omega)), ⟨t2, ja_RO_all (fun q d1 d2 => f2 q (by omega) (by omega) (by omega) (by omega)) h2⟩, ja_HO_c (f1 _ (by omega) (by omega) (by omega)) (f1 _ (by omega) (by omega) (by omega)) cH, ja_AO_c (fun q d1 d2 => f2 q (by omega) (by omega) (by omega) (by omega)) h4, fun i o hi ho => ja_RO_all (fun q d1 d2 => f2 q (by have := a4 i o hi ho; omega) (by have := a4 i o hi ho; omega) (by have := a4 i o hi ho; omega) (by have := a4 i o hi ho; omega)) ((h5 i o hi ho).mono (by omega))⟩, a3, a4, a5⟩, ⟨b1, ?_, ?_, ?_, ?_⟩, ?_, ⟨?_, ?_⟩, fun s hs2 => ⟨fun q => ?_, fun o q => ?_⟩⟩
  · rw [ja_rw_s]
    exact b2.mono (by omega)
  · exact N_TO_c (by rw [f5]) k5 hT
  · rw [k4]
    exact b4
  · rw [k3, k4]
    exact fun s d1 d2 => (b5 s d1 d2).mono (by omega)
  · rw [ja_rw_s]
    exact cg mem _ (y + 1) _ _ (fun q d1 d2 => f2 q (by omega) (by omega) (by omega) (by omega)) (fun _ _ => rfl) hTt
  · rw [f5, f1 _ (by omega) (by omega) (by omega)]
    exact hx.1
  · rw [f5, k5, f1 _ (by omega) (by omega) (by omega)]
    exact hx.2
  · rw [k4]
    exact (hsl s hs2).1 q
  · obtain ⟨e1, e2⟩ := (hsl s hs2).2 o q
    have ho := a4 s o hs2 q
    rw [k3, k4]
    exact ⟨e1, cg mem _ o _ _ (fun q d1 d2 => f2 q (by omega) (by omega) (by omega) (by omega)) (fun _ _ => rfl) e2⟩
theorem In_append {S : S_T} (hS : S_ok S) {lay : ja_Y} {mem : ja_M} {n y : Nat} {sl : Nat → Option Nat} {t k : Int} (h : L_In S lay mem n y sl t) {M1 : ja_M} (e : (if 32 ≤ k ∧ k ≤ 126 ∧ mem (y + 42) 1 < 120 then ja_up (ja_up mem (y + 42 + 1) (mem (y + 42) 1).toNat k) (y + 42) 1 (mem (y + 42) 1 + 1) else mem) = M1) : L_In S lay (ja_rw (if 32 ≤ k ∧ k ≤ 126 ∧ ¬ M1 (y + 49) 5 = 120 then ja_up (ja_up M1 (y + 49 + 5) (M1 (y + 49) 5).toNat k) (y + 49) 5 (M1 (y + 49) 5 + 1) else M1) (y + 49 + 1) (mem (y + 49 + 1))) n y sl (t + 500) := by
  have hx := h.2.2.2.1
  have hH := h.1.2.1.2.2.1
  have hT := h.2.1.2.2.1
  obtain ⟨x1, x2⟩ := hx
  obtain ⟨h1, hch, h5, h6, h7⟩ := id hH
  obtain ⟨t1, t2⟩ := id hT
  by_cases hc : 32 ≤ k ∧ k ≤ 126 ∧ mem (y + 42) 1 < 120
  · rw [if_pos hc] at e
    have e49 : M1 (y + 49) = mem (y + 49) := by rw [← e, ja_up_row (by omega), ja_up_row (by omega)]
    have e54 : M1 (y + 49 + 5) = mem (y + 49 + 5) := by rw [← e, ja_up_row (by omega), ja_up_row (by omega)]
    have e42 : M1 (y + 42) 1 = mem (y + 42) 1 + 1 := by rw [← e, ja_up_s]
    have e43 : ∀ j, M1 (y + 42 + 1) j = if j = (mem (y + 42) 1).toNat then k else mem (y + 42 + 1) j := fun j => by
      rw [← e, ja_up_a (by omega)]
      by_cases hj : j = (mem (y + 42) 1).toNat
      · rw [if_pos hj, hj, ja_up_s]
      · rw [if_neg hj, ja_up_j hj]
    rw [if_pos ⟨hc.1, hc.2.1, by rw [e49]; omega⟩]
    refine In_text hS h (M1 := M1) (fun q hq => by rw [← e, ja_up_row (by omega), ja_up_row (by omega)]) ⟨by rw [e42]; omega, fun j => ?_, ?_, ?_, ?_⟩ (fun q d0 d5 => by rw [ja_up_row d0, ja_up_row d5]) ⟨?_, fun j => ?_⟩ ⟨?_, fun j hj => ?_⟩
    · rw [e43]
      split
      · omega
      · exact hch j
    · rw [← e, ja_up_j (by omega), ja_up_a (by omega)]
      exact h5
    · rw [← e, ja_up_j (by omega), ja_up_a (by omega)]
      exact h6
    · rw [← e, ja_up_j (by omega), ja_up_a (by omega)]
      exact h7
    · rw [ja_up_s, e49]
      omega
    · rw [ja_up_a (by omega), e49]
      by_cases hj : j = (mem (y + 49) 5).toNat
      · rw [hj, ja_up_s]
        omega
      · rw [ja_up_j hj, e54]
        exact t2 j
    · rw [ja_up_s, e42, e49, x1]
    · rw [ja_up_s, e49] at hj
      rw [ja_up_a (by omega), e49, e43]
      by_cases hjj : j = (mem (y + 49) 5).toNat
      · rw [if_pos (by omega), hjj, ja_up_s]
      · rw [if_neg (by omega), ja_up_j hjj, e54]
        exact x2 j (by omega)
  · rw [if_neg hc] at e
    subst e
    rw [if_neg (fun q => hc ⟨q.1, q.2.1, by omega⟩)]
    exact In_text hS h (fun _ _ => rfl) hH (fun _ _ _ => rfl) hT ⟨x1, x2⟩
theorem In_clear {S : S_T} (hS : S_ok S) {lay : ja_Y} {mem : ja_M} {n y : Nat} {sl : Nat → Option Nat} {t : Int} (h : L_In S lay mem n y sl t) {M1 : ja_M} (e : ja_up mem (y + 42) 1 0 = M1) : L_In S lay (ja_rw (ja_up M1 (y + 49) 5 0) (y + 49 + 1) (mem (y + 49 + 1))) n y sl (t + 500) := by
  have hx := h.2.2.2.1
  have hH := h.1.2.1.2.2.1
  have hT := h.2.1.2.2.1
  obtain ⟨h1, hch, h5, h6, h7⟩ := id hH
  subst e
  refine In_text hS h (M1 := ja_up mem (y + 42) 1 0) (G' := ja_up (ja_up mem (y + 42) 1 0) (y + 49) 5 0) (fun q hq => by rw [ja_up_row (by omega)]) ⟨by rw [ja_up_s]; omega, fun j => by rw [ja_up_a (by omega)]; exact hch j, by rw [ja_up_j (by omega)]; exact h5, by rw [ja_up_j (by omega)]; exact h6, by rw [ja_up_j (by omega)]; exact h7⟩ (fun q d0 d5 => by rw [ja_up_row d0]) ⟨by rw [ja_up_s]; omega, fun j => by rw [ja_up_a (by omega), ja_up_a (by omega)]; exact hT.2 j⟩ ⟨by rw [ja_up_s, ja_up_s], fun j hj => by rw [ja_up_s] at hj; omega⟩
-- slots
theorem N_kr_at {g v : Nat → Int} {s j : Nat} {k : Int} (hk : k = (s : Int)) (hj : j < 2484) : N_kr g v k 2484 (2484 * s + j) = v j := by
  subst hk
  unfold N_kr
  rw [if_pos (by omega)]
  congr 1
  omega
theorem N_kr_ne {g v : Nat → Int} {s j : Nat} {k : Int} (h0 : 0 ≤ k) (hk : k ≠ (s : Int)) (hj : j < 2484) : N_kr g v k 2484 (2484 * s + j) = g (2484 * s + j) := by
  unfold N_kr
  rw [if_neg]
  intro q
  omega
/-- a receiver is kept -/
theorem In_keep {S : S_T} (hS : S_ok S) {lay lay1 : ja_Y} {mem : ja_M} {n n1 y o : Nat} {sl sl1 : Nat → Option Nat} {t k : Int} (h : L_In S lay mem n y sl t) (hk : 0 ≤ k ∧ k ≤ 1) {m0 M1 : ja_M} (e : M1 = R_cp m0 o (y + 1)) (hm0 : ∀ q, q < n → m0 q = mem q) (hn1 : n ≤ n1) (ho : y + 58 ≤ o ∧ o + 20 ≤ n1) (hRo : ∃ t2, ja_RO m0 o t2) (hlB : ja_LB lay1 y sl1) (hlM : ja_LM lay1 (y + 49)) (hsk : sl1 k.toNat = some o) (hso : ∀ s : Nat, s < 2 → (s : Int) ≠ k → sl1 s = sl s) (hdis : ∀ (s o' : Nat), s < 2 → (s : Int) ≠ k → sl s = some o' → o' + 20 ≤ o ∨ o + 20 ≤ o') : L_In S lay1 (ja_rw (ja_up (ja_rw M1 (y + 49 + 3) (N_kr (M1 (y + 49 + 3)) (mem (y + 49 + 1)) k 2484)) (y + 49 + 4) k.toNat 1) (y + 49 + 1) (mem (y + 49 + 1))) n1 y sl1 (t + 500) := by
  obtain ⟨⟨a1, a2, a3, a4, a5⟩, ⟨b1, b2, b3, b4, b5⟩, hT, hx, hsl⟩ := h
  obtain ⟨cg, cy, -⟩ := hS
  obtain ⟨h1, ⟨t2, h2⟩, h3, h4, h5⟩ := a2
  obtain ⟨t3, hRo⟩ := hRo
  have hR0 : ja_RO m0 (y + 1) t := ja_RO_all (fun q d1 d2 => hm0 q (by omega)) h1
  have hfr : ∀ q, (q < o ∨ o + 20 ≤ q) → q < n → M1 q = mem q := fun q d1 d2 => by rw [e, R_cp_o (by omega), hm0 q d2]
  have hcp := R_cp_RO hR0 hRo (by omega)
  have heq := R_cp_eq (mem := m0) (b := o) (o := y + 1) (by omega) hR0.2.2.2.1.1
  have hS0 : S m0 (y + 1) (mem (y + 49 + 1)) := cg mem m0 _ _ _ (fun q d1 d2 => hm0 q (by omega)) (fun _ _ => rfl) hT
  have hSo : S M1 o (mem (y + 49 + 1)) := by
    rw [e]
    exact cy m0 _ o (y + 1) _ t hR0 heq hS0
  rw [← e] at hcp
  generalize hW : ja_rw (ja_up (ja_rw M1 (y + 49 + 3) (N_kr (M1 (y + 49 + 3)) (mem (y + 49 + 1)) k 2484)) (y + 49 + 4) k.toNat 1) (y + 49 + 1) (mem (y + 49 + 1)) = W
  have w1 : W (y + 49 + 1) = mem (y + 49 + 1) := by rw [← hW, ja_rw_s]
  have w3 : W (y + 49 + 3) = N_kr (mem (y + 49 + 3)) (mem (y + 49 + 1)) k 2484 := by rw [← hW, ja_rw_n (by omega), ja_up_row (by omega), ja_rw_s, hfr _ (by omega) (by omega)]
  have w4 : ∀ j, W (y + 49 + 4) j = if j = k.toNat then 1 else mem (y + 49 + 4) j := fun j => by
    rw [← hW, ja_rw_n (by omega)]
    by_cases hj : j = k.toNat
    · rw [if_pos hj, hj, ja_up_s]
    · rw [if_neg hj, ja_up_j hj, ja_rw_n (by omega), hfr _ (by omega) (by omega)]
  have wo : ∀ q, q ≠ y + 49 + 1 → q ≠ y + 49 + 3 → q ≠ y + 49 + 4 → W q = M1 q := fun q d1 d3 d4 => by rw [← hW, ja_rw_n d1, ja_up_row d4, ja_rw_n d3]
  have wm : ∀ q, q ≠ y + 49 + 1 → q ≠ y + 49 + 3 → q ≠ y + 49 + 4 → (q < o ∨ o + 20 ≤ q) → q < n → W q = mem q := fun q d1 d3 d4 d5 d6 => (wo q d1 d3 d4).trans (hfr q d5 d6)
  have hcase : ∀ s : Nat, s < 2 → ∀ o', sl1 s = some o' → ((s : Int) = k ∧ o' = o) ∨ ((s : Int) ≠ k ∧ sl s = some o') := fun s s2 o' hs => by
    by_cases hq : (s : Int) = k
    · left
      have : k.toNat = s := by omega
      rw [← this, hsk] at hs
      cases hs
      exact ⟨hq, rfl⟩
    · right
      rw [hso s s2 hq] at hs
      exact ⟨hq, hs⟩
  refine ⟨⟨hlB, ⟨?_, ⟨t2, ?_⟩, ?_, ?_, ?_⟩, by omega, ?_, ?_⟩, ⟨hlM, ?_, ?_, ?_, ?_⟩, ?_, ?_, ?_⟩
  · exact ja_RO_all (fun q d1 d2 => wm q (by omega) (by omega) (by omega) (by omega) (by omega)) (h1.mono (by omega))
  · exact ja_RO_all (fun q d1 d2 => wm q (by omega) (by omega) (by omega) (by omega) (by omega)) h2
  · exact ja_HO_c (wm _ (by omega) (by omega) (by omega) (by omega) (by omega)) (wm _ (by omega) (by omega) (by omega) (by omega) (by omega)) h3
  · exact ja_AO_c (fun q d1 d2 => wm q (by omega) (by omega) (by omega) (by omega) (by omega)) h4
  · intro i o' hi hs
    rcases hcase i hi o' hs with ⟨-, rfl⟩ | ⟨hne, hs2⟩
    · exact ja_RO_all (fun q d1 d2 => wo q (by omega) (by omega) (by omega)) (hcp.mono (by omega))
    · have ho' := a4 i o' hi hs2
      have hd := hdis i o' hi hne hs2
      exact ja_RO_all (fun q d1 d2 => wm q (by omega) (by omega) (by omega) (by omega) (by omega)) ((h5 i o' hi hs2).mono (by omega))
  · intro i o' hi hs
    rcases hcase i hi o' hs with ⟨-, rfl⟩ | ⟨-, hs2⟩
    · exact ho
    · have ho' := a4 i o' hi hs2
      exact ⟨ho'.1, by omega⟩
  · intro o0 o1 hs0 hs1
    rcases hcase 0 (by omega) o0 hs0 with ⟨k0, rfl⟩ | ⟨k0, hs02⟩
    · rcases hcase 1 (by omega) o1 hs1 with ⟨k1, -⟩ | ⟨k1, hs12⟩
      · omega
      · have := hdis 1 o1 (by omega) k1 hs12
        omega
    · rcases hcase 1 (by omega) o1 hs1 with ⟨k1, rfl⟩ | ⟨k1, hs12⟩
      · exact hdis 0 o0 (by omega) k0 hs02
      · exact a5 o0 o1 hs02 hs12
  · rw [w1]
    exact b2.mono (by omega)
  · exact N_TO_c (by rw [wm _ (by omega) (by omega) (by omega) (by omega) (by omega)]) (wm _ (by omega) (by omega) (by omega) (by omega) (by omega)) b3
  · intro j
    rw [w4]
    split
    · omega
    · exact b4 j
  · intro s s2 hs1
    rw [w4] at hs1
    rw [w3]
    by_cases hq : (s : Int) = k
    · exact (b2.mono (by omega)).c (fun j hj => N_kr_at hq.symm hj)
    · rw [if_neg (by omega)] at hs1
      exact ((b5 s s2 hs1).mono (by omega)).c (fun j hj => N_kr_ne hk.1 (fun q => hq q.symm) hj)
  · rw [w1]
    exact cg mem W _ _ _ (fun q d1 d2 => wm q (by omega) (by omega) (by omega) (by omega) (by omega)) (fun _ _ => rfl) hT
  · have x1 := wm (y + 42) (by omega) (by omega) (by omega) (by omega) (by omega)
    have x2 := wm (y + 42 + 1) (by omega) (by omega) (by omega) (by omega) (by omega)
    have x3 := wm (y + 49) (by omega) (by omega) (by omega) (by omega) (by omega)
    have x4 := wm (y + 49 + 5) (by omega) (by omega) (by omega) (by omega) (by omega)
    unfold L_x
    rw [x1, x2, x3, x4]
    exact hx
  · intro s s2
    rw [w4, w3]
    by_cases hq : (s : Int) = k
    · have hks : k.toNat = s := by omega
      rw [if_pos (by omega)]
      refine ⟨fun q => ?_, fun o' q => ?_⟩
      · rw [← hks, hsk] at q
        cases q
      · rw [← hks, hsk] at q
        cases q
        exact ⟨rfl, cg M1 W o _ _ (fun q d1 d2 => wo q (by omega) (by omega) (by omega)) (fun j hj => N_kr_at hq.symm hj) hSo⟩
    · rw [if_neg (by omega)]
      refine ⟨fun q => (hsl s s2).1 (by rw [← hso s s2 hq]; exact q), fun o' q => ?_⟩
      rw [hso s s2 hq] at q
      obtain ⟨e1, e2⟩ := (hsl s s2).2 o' q
      have ho' := a4 s o' s2 q
      have hd := hdis s o' s2 hq q
      exact ⟨e1, cg mem W o' _ _ (fun q d1 d2 => wm q (by omega) (by omega) (by omega) (by omega) (by omega)) (fun j hj => N_kr_ne hk.1 (fun q => hq q.symm) hj) e2⟩
/-- a receiver is restored -/
theorem In_restore {S : S_T} (hS : S_ok S) {lay : ja_Y} {mem : ja_M} {n y o s : Nat} {sl : Nat → Option Nat} {t : Int} (h : L_In S lay mem n y sl t) (hs : s < 2) (hso : sl s = some o) {M1 : ja_M} (e : R_cp mem (y + 1) o = M1) {v' : Nat → Int} (hv : ∀ j, j < 2484 → v' j = mem (y + 49 + 3) (2484 * s + j)) : L_In S lay (ja_rw M1 (y + 49 + 1) v') n y sl (t + 500) := by
  have h0 := h
  obtain ⟨⟨a1, a2, a3, a4, a5⟩, ⟨b1, b2, b3, b4, b5⟩, hT, hx, hsl⟩ := h
  obtain ⟨cg, cy, -⟩ := id hS
  have ho := a4 s o hs hso
  obtain ⟨e1, e2⟩ := (hsl s hs).2 o hso
  obtain ⟨h1, ⟨t2, h2⟩, h3, h4, h5⟩ := id a2
  have hRo := h5 s o hs hso
  have hcp := R_cp_RO hRo h1 (by omega)
  have heq := R_cp_eq (mem := mem) (b := y + 1) (o := o) (by omega) hRo.2.2.2.1.1
  have hfr : ∀ q, (q < y + 1 ∨ y + 21 ≤ q) → M1 q = mem q := fun q d => by rw [← e]; exact R_cp_o (by omega)
  rw [e] at hcp heq
  refine In_step hS h0 (fun q hq => hfr q (by omega)) (by rw [hfr _ (by omega)]) (hfr _ (by omega)) ?_ N_rf.rf (((b5 s hs e1).mono (by omega)).c hv) ?_
  · exact BO_recv (by omega) a2 (fun i o' hi ho' => by have := a4 i o' hi ho'; omega) (hcp.mono (by omega)) (fun q hq => hfr q (by omega))
  · exact cg M1 M1 _ _ _ (fun _ _ _ => rfl) hv (cy mem M1 (y + 1) o _ t hRo heq e2)
theorem In_fresh {S : S_T} (hS : S_ok S) {lay : ja_Y} {mem : ja_M} {n y : Nat} (h : L_fr lay mem n y (y + 49)) : L_In S lay mem n y (fun _ => none) 0 := by
  obtain ⟨hm, hn, hB, hM, hS1, hS2, hz, hv, hmz⟩ := id h
  obtain ⟨-, -, -, -, -, -, -, -, -, hi⟩ := hS
  refine ⟨⟨hB, h.BO, by omega, fun i o _ q => (by cases q), fun o0 o1 q _ => (by cases q)⟩, ⟨hM, by rw [hv]; exact N_v0_O, ⟨by rw [hmz (y + 49) 5 (by omega) (by omega) (by omega)]; omega, fun j => by rw [hmz (y + 49 + 5) j (by omega) (by omega) (by omega)]; omega⟩, fun j => by rw [hmz (y + 49 + 4) j (by omega) (by omega) (by omega)]; omega, fun s _ q => by rw [hmz (y + 49 + 4) s (by omega) (by omega) (by omega)] at q; omega⟩, by rw [hv]; exact hi _ _ h.R, ⟨?_, fun j hj => ?_⟩, fun s _ => ⟨fun _ => hmz (y + 49 + 4) s (by omega) (by omega) (by omega), fun o q => (by cases q)⟩⟩
  · rw [hmz (y + 49) 5 (by omega) (by omega) (by omega)]
    exact Z_HO h
  · rw [hmz (y + 49) 5 (by omega) (by omega) (by omega)] at hj
    omega
theorem In_step2 {S : S_T} (hS : S_ok S) {lay : ja_Y} {mem : ja_M} {n y : Nat} {sl : Nat → Option Nat} {t : Int} (h : L_In S lay mem n y sl t) {M1 G' M2 : ja_M} {v' : Nat → Int} (e : ja_rw G' (y + 49 + 1) v' = M2) (c1 : ∀ q, y + 49 ≤ q → M1 q = mem q) (c2 : M1 (y + 42) 1 = mem (y + 42) 1) (c3 : M1 (y + 42 + 1) = mem (y + 42 + 1)) (cB : ja_BO M1 y sl (t + 500)) (hG : N_rf (y + 49) M1 G') (hO : N_O v' (t + 500)) (hs : S M1 (y + 1) v') : L_In S lay M2 n y sl (t + 500) := by
  subst e
  exact In_step hS h c1 c2 c3 cB hG hO hs
