-- RESTORING, FOR BOTH
theorem J_ct_add {P Q R : Nat → Bool} : ∀ n : Nat, (∀ c, c < n → (P c).toNat = (Q c).toNat + (R c).toNat) → J_ct P n = J_ct Q n + J_ct R n
  | 0, _ => rfl
  | n + 1, h => by
    have ih := J_ct_add n (fun c hc => h c (by omega))
    have hn := h n (by omega)
    rw [J_ct_s, J_ct_s, J_ct_s]
    omega
theorem J_le1 {p q : Bool} (h : q = true → p = true) : q.toNat ≤ p.toNat := by
  cases q with
  | false => exact Nat.zero_le _
  | true =>
    rw [h rfl]
    exact Nat.le_refl _
theorem J_ct_le {P Q : Nat → Bool} : ∀ n : Nat, (∀ c, c < n → Q c = true → P c = true) → J_ct Q n ≤ J_ct P n
  | 0, _ => Nat.le_refl _
  | n + 1, h => by
    have ih := J_ct_le n (fun c hc => h c (by omega))
    have hn := J_le1 (h n (by omega))
    rw [J_ct_s, J_ct_s]
    omega
theorem J_ct_eq {P Q : Nat → Bool} : ∀ n : Nat, (∀ c, c < n → Q c = true → P c = true) → J_ct P n = J_ct Q n → ∀ c, c < n → P c = true → Q c = true
  | 0, _, _, c, hc, _ => absurd hc (Nat.not_lt_zero c)
  | n + 1, h, e, c, hc, hp => by
    have hl := J_ct_le n (fun c hc => h c (by omega))
    have hn := J_le1 (h n (by omega))
    rw [J_ct_s, J_ct_s] at e
    by_cases hcn : c = n
    · subst hcn
      rw [hp, J_t1] at e hn
      cases hq : Q c with
      | true => rfl
      | false =>
        rw [hq, J_t0] at e
        omega
    · exact J_ct_eq n (fun c hc => h c (by omega)) (by omega) c (by omega) hp
theorem J_ct_tail {P : Nat → Bool} {n : Nat} (h : ∀ c, n ≤ c → P c = false) : ∀ d : Nat, J_ct P (n + d) = J_ct P n
  | 0 => rfl
  | d + 1 => by
    rw [show n + (d + 1) = (n + d) + 1 by omega, J_ct_s, J_ct_tail h d, h (n + d) (by omega)]
    rfl
/-- the known cells of block k -/
def K_b (v : Nat → Int) (k : Int) (x : Int64) : Prop := ∀ c : Nat, (c : Int) < N_ar v → (J_b x c = true ↔ N_kn v (N_ar v * k + c))
/-- the unknown ones, counted -/
def J_Z (n : Nat) (x : Int64) : Nat := J_ct (fun c => !J_b x c) n
theorem N_cv_g (v : Nat → Int) (r k i j : Int) : N_cv v r k i j = N_ar v * k + L_g (v 3) r i j := by
  unfold N_cv L_g
  rw [Int.mul_comm j, Int.mul_comm i]
theorem N_r1_iff {v : Nat → Int} {r k i : Int} (hS : N_S v) (hk : N_hB v k) (hi : 0 ≤ i ∧ i ≤ 6) {y : Int} (hy : 0 ≤ y) : ∀ n : Nat, n ≤ 6 → (N_kn (N_r1 v r k i n) y ↔ N_kn v y ∨ ∃ j : Nat, j < n ∧ y = N_cv v r k i j)
  | 0, _ => by
    constructor
    · exact Or.inl
    · rintro (h | ⟨j, hj, -⟩)
      · exact h
      · omega
  | n + 1, hn => by
    have ih := N_r1_iff (r := r) hS hk hi hy n (by omega)
    have hc := N_cv_in (r := r) (j := (n : Int)) hS hk hi ⟨by omega, by omega⟩
    simp only [N_r1]
    by_cases hq : N_kn (N_r1 v r k i n) (N_cv v r k i n)
    · rw [if_pos hq]
      constructor
      · intro h
        rcases ih.mp h with h | ⟨j, h1, h2⟩
        · exact Or.inl h
        · exact Or.inr ⟨j, by omega, h2⟩
      · rintro (h | ⟨j, h1, h2⟩)
        · exact ih.mpr (Or.inl h)
        · by_cases hj : j = n
          · subst hj
            rw [h2]
            exact hq
          · exact ih.mpr (Or.inr ⟨j, by omega, h2⟩)
    · rw [if_neg hq]
      by_cases hyc : y = N_cv v r k i n
      · constructor
        · intro _
          exact Or.inr ⟨n, by omega, hyc⟩
        · intro _
          refine Or.inr ?_
          rw [hyc, ja_rs_s]
          decide
      · have e : N_kn (ja_rs (N_r1 v r k i n) (30 + N_cv v r k i n).toNat 1) y ↔ N_kn (N_r1 v r k i n) y := by
          unfold N_kn
          rw [ja_rs_n (by omega)]
        rw [e, ih]
        constructor
        · rintro (h | ⟨j, h1, h2⟩)
          · exact Or.inl h
          · exact Or.inr ⟨j, by omega, h2⟩
        · rintro (h | ⟨j, h1, h2⟩)
          · exact Or.inl h
          · by_cases hj : j = n
            · subst hj
              exact absurd h2 hyc
            · exact Or.inr ⟨j, by omega, h2⟩
section
variable {mem : ja_M} {s : Nat} {v : Nat → Int} {r k i : Int} {x : Int64}
theorem F_lb_im (hSO : ja_SO mem s) (hi : 0 ≤ i ∧ i < F_cn mem s r) (x : Int64) (c : Nat) : J_b (F_lb mem s r i &&& (x ^^^ (-1))) c = true ↔ ∃ j : Nat, j < (F_cs mem s r).toNat ∧ c = (L_g (mem s 3) r i j).toNat ∧ (!J_b x (L_g (mem s 3) r i j).toNat) = true := by
  obtain ⟨-, -, -, h3, h4, -⟩ := id hSO
  rw [J_b_and, J_b_not, Bool.and_eq_true, Bool.and_eq_true]
  constructor
  · rintro ⟨q1, q2, q3⟩
    obtain ⟨j, g1, g2⟩ := (F_lb_b hSO hi c).mp q1
    have hc : c = (L_g (mem s 3) r i j).toNat := by omega
    exact ⟨j, by omega, hc, by rw [← hc]; exact q3⟩
  · rintro ⟨j, g1, g2, g3⟩
    have hj : (j : Int) < F_cs mem s r := by omega
    have hg := L_g_in (r := r) (i := i) (j := j) h3 h4 hi ⟨by omega, hj⟩
    rw [← g2] at g3
    exact ⟨(F_lb_b hSO hi c).mpr ⟨j, hj, by omega⟩, decide_eq_true (by omega : c < 64), g3⟩
theorem F_lb_ct (hSO : ja_SO mem s) (hi : 0 ≤ i ∧ i < F_cn mem s r) (x : Int64) (n : Nat) (hn : mem s 3 * mem s 4 ≤ n) : J_ct (J_b (F_lb mem s r i &&& (x ^^^ (-1)))) n = J_ct (fun j => !J_b x (L_g (mem s 3) r i j).toNat) (F_cs mem s r).toNat := by
  obtain ⟨-, -, -, h3, h4, -⟩ := id hSO
  have hg : ∀ j : Nat, j < (F_cs mem s r).toNat → 0 ≤ L_g (mem s 3) r i j ∧ L_g (mem s 3) r i j < mem s 3 * mem s 4 := fun j hj => by
    have := L_g_in (r := r) (i := i) (j := j) h3 h4 hi ⟨by omega, by show (j : Int) < F_cs mem s r; omega⟩
    exact ⟨this.1, this.2.1⟩
  refine J_ct_im (g := fun j => (L_g (mem s 3) r i j).toNat) (F_cs mem s r).toNat _ (fun j hj => by have := hg j hj; omega) (fun a b ha hb e => ?_) (fun c => F_lb_im hSO hi x c)
  have h1 := hg a ha
  have h2 := hg b hb
  have e2 : L_g (mem s 3) r i a = L_g (mem s 3) r i b := by
    have e' : (L_g (mem s 3) r i a).toNat = (L_g (mem s 3) r i b).toNat := e
    omega
  have := L_g_inj h3 e2
  omega
theorem N_mi_ct : ∀ n : Nat, (∀ j : Nat, j < n → (J_b x (L_g (v 3) r i j).toNat = true ↔ N_kn v (N_cv v r k i j))) → N_mi v r k i n = ((J_ct (fun j => !J_b x (L_g (v 3) r i j).toNat) n : Nat) : Int)
  | 0, _ => rfl
  | n + 1, h => by
    have ih := N_mi_ct n (fun j hj => h j (by omega))
    have hn := h n (by omega)
    simp only [N_mi]
    rw [ih, J_ct_s]
    by_cases hq : N_kn v (N_cv v r k i n)
    · rw [if_pos hq, hn.mpr hq]
      rfl
    · rw [if_neg hq]
      have hb : J_b x (L_g (v 3) r i n).toNat = false := by
        cases hb : J_b x (L_g (v 3) r i n).toNat with
        | false => rfl
        | true => exact absurd (hn.mp hb) hq
      rw [hb]
      rfl
/-- missing frames of a line -/
theorem F_mi (hSO : ja_SO mem s) (hs : ∀ j, j < 9 → mem s j = v j) (hK : K_b v k x) (hi : 0 ≤ i ∧ i < F_cn mem s r) (n : Nat) (hn : mem s 3 * mem s 4 ≤ n) : ((J_ct (J_b (F_lb mem s r i &&& (x ^^^ (-1)))) n : Nat) : Int) = N_mi v r k i (N_cs v r).toNat := by
  obtain ⟨-, -, -, h3, h4, -⟩ := id hSO
  have e3 := hs 3 (by omega)
  have e4 := hs 4 (by omega)
  have ecs : F_cs mem s r = N_cs v r := by
    unfold F_cs N_cs
    rw [e3, e4]
  rw [F_lb_ct hSO hi x n hn, N_mi_ct (x := x) (N_cs v r).toNat (fun j hj => ?_), ecs, e3]
  have hg := L_g_in (r := r) (i := i) (j := j) h3 h4 hi ⟨by omega, by show (j : Int) < F_cs mem s r; omega⟩
  rw [e3, e4] at hg
  rw [N_cv_g]
  have := hK (L_g (v 3) r i j).toNat (by unfold N_ar; omega)
  rw [show (((L_g (v 3) r i j).toNat : Nat) : Int) = L_g (v 3) r i j by omega] at this
  exact this
/-- what both go through together -/
def F_sy (mem : ja_M) (s : Nat) (p a k : Int) (v : Nat → Int) (x : Int64) : Prop := N_S v ∧ N_hB v k ∧ (∀ j, j < 9 → mem s j = v j) ∧ (∀ r j : Int, 0 ≤ r → r ≤ 1 → 0 ≤ j → j < F_cn mem s r → (F_and p (F_pb r j) = 0 ↔ ¬ (¬ a = 0 ∨ v (N_pk v r k j).toNat = 1))) ∧ K_b v k x
/-- what changed lies in the block, and is 1 -/
def N_ch (k : Int) (v w : Nat → Int) : Prop := ∀ j : Nat, w j = v j ∨ (w j = 1 ∧ ∃ c : Nat, (c : Int) < N_ar v ∧ (j : Int) = 30 + (N_ar v * k + c))
theorem N_ch.rf {k : Int} {v : Nat → Int} : N_ch k v v := fun _ => Or.inl rfl
theorem N_ch.tr {k : Int} {v w u : Nat → Int} (ha : N_ar w = N_ar v) (h : N_ch k v w) (h2 : N_ch k w u) : N_ch k v u := fun j => by
  rcases h2 j with e | ⟨e, c, c1, c2⟩
  · rw [e]
    exact h j
  · rw [ha] at c1 c2
    exact Or.inr ⟨e, c, c1, c2⟩
theorem N_r1_ch {v : Nat → Int} {r k i : Int} (hS : N_S v) (hk : N_hB v k) (hi : 0 ≤ i ∧ i < if r = 0 then v 3 else v 4) : ∀ n : Nat, (n : Int) ≤ N_cs v r → N_ch k v (N_r1 v r k i n)
  | 0, _ => N_ch.rf
  | n + 1, hn => by
    have ih := N_r1_ch hS hk hi n (by omega)
    obtain ⟨-, -, -, s3, s4, -⟩ := id hS
    have hb := N_bk hS hk
    simp only [N_r1]
    split
    · exact ih
    · intro j
      by_cases hj : j = (30 + N_cv v r k i n).toNat
      · have hg := L_g_in (r := r) (i := i) (j := n) s3 s4 hi ⟨by omega, by unfold N_cs at hn; omega⟩
        refine Or.inr ⟨by rw [hj, ja_rs_s], (L_g (v 3) r i n).toNat, by unfold N_ar; omega, ?_⟩
        rw [N_cv_g] at hj
        omega
      · rw [ja_rs_n hj]
        exact ih j
def F_go (k : Int) (v : Nat → Int) (x : Int64) (w : Nat → Int) (y : Int64) (d : Int) : Prop := (N_fr v w ∧ N_ch k v w) ∧ K_b w k y ∧ d + ((J_Z (N_ar v).toNat y : Nat) : Int) = ((J_Z (N_ar v).toNat x : Nat) : Int) ∧ (∀ c, J_b x c = true → J_b y c = true) ∧ ∀ c : Nat, N_ar v ≤ c → J_b y c = J_b x c
theorem F_go.rf (h : K_b v k x) : F_go k v x v x 0 := ⟨⟨N_fr.rf, N_ch.rf⟩, h, by omega, fun _ q => q, fun _ _ => rfl⟩
theorem F_go.tr {w u : Nat → Int} {y z : Int64} {d e : Int} (h : F_go k v x w y d) (h2 : F_go k w y u z e) : F_go k v x u z (d + e) := by
  obtain ⟨⟨a1, a0⟩, a2, a3, a4, a5⟩ := h
  obtain ⟨⟨b1, b0⟩, b2, b3, b4, b5⟩ := h2
  rw [a1.ss.ar] at b3 b5
  exact ⟨⟨a1.tr b1, a0.tr a1.ss.ar b0⟩, b2, by omega, fun c q => b4 c (a4 c q), fun c q => (b5 c q).trans (a5 c q)⟩
theorem F_sy.go {p a : Int} {w : Nat → Int} {y : Int64} {d : Int} (h : F_sy mem s p a k v x) (g : F_go k v x w y d) : F_sy mem s p a k w y := by
  obtain ⟨h1, h2, h3, h4, -⟩ := h
  obtain ⟨⟨g1, -⟩, g2, -⟩ := g
  refine ⟨g1.ss.S h1, g1.ss.hB.mpr h2, fun j hj => (h3 j hj).trans (g1.ss j hj).symm, fun r j r0 r1 j0 j1 => ?_, g2⟩
  rw [h4 r j r0 r1 j0 j1, g1.ss.pk]
  have hcn : 0 ≤ j ∧ j ≤ 6 := by
    obtain ⟨-, -, -, s3, s4, -⟩ := h1
    rw [← h3 3 (by omega)] at s3
    rw [← h3 4 (by omega)] at s4
    unfold F_cn at j1
    split at j1 <;> omega
  have hp := N_pk_in (r := r) h1 h2 hcn
  rw [g1.1 _ (by omega)]
/-- one line -/
theorem F_wl_N {p a : Int} (hSO : ja_SO mem s) (h : F_sy mem s p a k v x) (hr : 0 ≤ r ∧ r ≤ 1) (hi : 0 ≤ i ∧ i < F_cn mem s r) : F_go k v x (if ¬ a = 0 ∨ v (N_pk v r k i).toNat = 1 then N_rv v r k i else v) (F_wl mem s x p r i) (if ¬ a = 0 ∨ v (N_pk v r k i).toNat = 1 then N_rn v r k i else 0) := by
  obtain ⟨h1, h2, h3, h4, h5⟩ := h
  have hp := h4 r i hr.1 hr.2 hi.1 hi.2
  obtain ⟨-, -, -, s3, s4, -⟩ := id hSO
  have hi6 : 0 ≤ i ∧ i ≤ 6 := by
    unfold F_cn at hi
    split at hi <;> omega
  have har := N_ar_in h1
  have e3 := h3 3 (by omega)
  have e4 := h3 4 (by omega)
  have ear : mem s 3 * mem s 4 = N_ar v := by
    unfold N_ar
    rw [e3, e4]
  have hcs := @N_cs_in v r h1
  have ecs : F_cs mem s r = N_cs v r := by
    unfold F_cs N_cs
    rw [e3, e4]
  unfold F_wl
  by_cases hz : F_and p (F_pb r i) = 0
  · rw [if_pos hz, if_neg (hp.mp hz), if_neg (hp.mp hz)]
    exact F_go.rf h5
  · have hz2 : ¬ a = 0 ∨ v (N_pk v r k i).toNat = 1 := Decidable.byContradiction fun q => hz (hp.mpr q)
    rw [if_neg hz, if_pos hz2, if_pos hz2, J_bc_ct, F_mi hSO h3 h5 hi 64 (by omega)]
    unfold N_rv N_rn
    by_cases hm : N_mi v r k i (N_cs v r).toNat = 1
    · rw [if_pos hm, if_pos hm, if_pos hm]
      have hfr := N_r1_fr (r := r) h1 h2 hi6 (N_cs v r).toNat (by omega)
      have hbit : ∀ c, J_b (x ||| (F_lb mem s r i &&& (x ^^^ (-1)))) c = true ↔ J_b x c = true ∨ ∃ j : Nat, (j : Int) < F_cs mem s r ∧ (c : Int) = L_g (mem s 3) r i j := fun c => by
        rw [J_b_or, Bool.or_eq_true]
        constructor
        · rintro (q | q)
          · exact Or.inl q
          · rw [J_b_and, Bool.and_eq_true] at q
            exact Or.inr ((F_lb_b hSO hi c).mp q.1)
        · rintro (q | q)
          · exact Or.inl q
          · cases hx : J_b x c with
            | true => exact Or.inl rfl
            | false =>
              refine Or.inr ?_
              have hc : c < 64 := by
                obtain ⟨j, g1, g2⟩ := q
                have := L_g_in (r := r) (i := i) (j := j) s3 s4 hi ⟨by omega, g1⟩
                omega
              rw [J_b_and, J_b_not, (F_lb_b hSO hi c).mpr q, hx, decide_eq_true hc]
              rfl
      have hi2 : 0 ≤ i ∧ i < if r = 0 then v 3 else v 4 := by
        unfold F_cn at hi
        rw [e3, e4] at hi
        exact hi
      refine ⟨⟨hfr, N_r1_ch h1 h2 hi2 _ (by omega)⟩, fun c hc => ?_, ?_, fun c q => (hbit c).mpr (Or.inl q), fun c hc => ?_⟩
      · rw [hfr.ss.ar] at hc ⊢
        have hb := N_bk h1 h2
        rw [hbit, N_r1_iff (r := r) h1 h2 hi6 (by omega) _ (by omega), h5 c hc]
        refine or_congr Iff.rfl ⟨?_, ?_⟩
        · rintro ⟨j, g1, g2⟩
          exact ⟨j, by omega, by rw [N_cv_g, ← e3]; omega⟩
        · rintro ⟨j, g1, g2⟩
          rw [N_cv_g, ← e3] at g2
          exact ⟨j, by omega, by omega⟩
      · have hadd : J_Z (N_ar v).toNat x = J_Z (N_ar v).toNat (x ||| (F_lb mem s r i &&& (x ^^^ (-1)))) + J_ct (J_b (F_lb mem s r i &&& (x ^^^ (-1)))) (N_ar v).toNat := J_ct_add _ (fun c hc => by
          rw [J_b_or, J_b_and, J_b_not, decide_eq_true (by omega : c < 64)]
          cases J_b x c <;> cases J_b (F_lb mem s r i) c <;> rfl)
        have hmi := F_mi hSO h3 h5 hi (N_ar v).toNat (by omega)
        rw [hm] at hmi
        omega
      · have hn : J_b (F_lb mem s r i) c = false := by
          cases hb : J_b (F_lb mem s r i) c with
          | false => rfl
          | true =>
            obtain ⟨j, g1, g2⟩ := (F_lb_b hSO hi c).mp hb
            have := L_g_in (r := r) (i := i) (j := j) s3 s4 hi ⟨by omega, g1⟩
            omega
        rw [J_b_or, J_b_and, hn, Bool.false_and, Bool.or_false]
    · rw [if_neg hm, if_neg hm, if_neg hm]
      exact F_go.rf h5
theorem F_ln_N {p a : Int} (hSO : ja_SO mem s) (h : F_sy mem s p a k v x) (hr : 0 ≤ r ∧ r ≤ 1) : ∀ n : Nat, (n : Int) ≤ F_cn mem s r → F_go k v x (N_rr a v r k n).2 (F_ln mem s p r x n) (N_rr a v r k n).1
  | 0, _ => F_go.rf h.2.2.2.2
  | n + 1, hn => by
    have ih := F_ln_N hSO h hr n (by omega)
    have hs := h.go ih
    have hw := F_wl_N (r := r) (i := (n : Int)) hSO hs hr ⟨by omega, by omega⟩
    rw [ih.1.1.ss.pk] at hw
    have ht := ih.tr hw
    simp only [N_rr, F_ln]
    by_cases hq : ¬ a = 0 ∨ (N_rr a v r k n).2 (N_pk v r k n).toNat = 1
    · rw [if_pos hq]
      rw [if_pos hq, if_pos hq] at ht
      exact ht
    · rw [if_neg hq]
      rw [if_neg hq, if_neg hq, Int.add_zero] at ht
      exact ht
theorem F_rd_N {p a : Int} (hSO : ja_SO mem s) (h : F_sy mem s p a k v x) : F_go k v x (N_rd a v k).2 (F_rd mem s p x) (N_rd a v k).1 := by
  have e3 := h.2.2.1 3 (by omega)
  have e4 := h.2.2.1 4 (by omega)
  obtain ⟨-, -, -, s3, s4, -⟩ := id hSO
  have h1 := F_ln_N (r := 1) hSO h (by omega) (v 4).toNat (by unfold F_cn; rw [if_neg (by omega)]; omega)
  have h2 := F_ln_N (r := 0) hSO (h.go h1) (by omega) (v 3).toNat (by unfold F_cn; rw [if_pos rfl]; omega)
  have ht := h1.tr h2
  unfold N_rd F_rd
  rw [e3, e4]
  exact ht
theorem J_Z_eq {y : Int64} {n : Nat} (hm : ∀ c, J_b x c = true → J_b y c = true) (he : J_Z n y = J_Z n x) (hb : ∀ c, n ≤ c → J_b y c = J_b x c) : y = x := by
  refine J_b_ext (fun c _ => ?_)
  by_cases hc : c < n
  · have h := J_ct_eq (P := fun c => !J_b x c) (Q := fun c => !J_b y c) n (fun c _ q => by
      cases hx : J_b x c with
      | false => rfl
      | true =>
        have q2 : (!J_b y c) = true := q
        rw [hm c hx] at q2
        cases q2) he.symm c hc
    cases hx : J_b x c with
    | true => exact hm c hx
    | false =>
      have h2 : (!J_b y c) = true := h (by show (!J_b x c) = true; rw [hx]; rfl)
      cases hy : J_b y c with
      | false => rfl
      | true =>
        rw [hy] at h2
        cases h2
  · exact hb c (by omega)
/-- as long as something is restored -/
theorem F_cp_N {p a : Int} (hSO : ja_SO mem s) : ∀ (kf nf : Nat) (v : Nat → Int) (x : Int64) (n0 : Int), F_sy mem s p a k v x → J_Z (N_ar v).toNat x < kf → J_Z (N_ar v).toNat x < nf → ∃ d : Int, (N_rs a k nf n0 v).1 = n0 + d ∧ F_go k v x (N_rs a k nf n0 v).2 (F_cp mem s p kf x) d
  | 0, _, v, x, n0, _, h, _ => by omega
  | kf + 1, 0, v, x, n0, _, _, h => by omega
  | kf + 1, nf + 1, v, x, n0, h, h1, h2 => by
    have hg := F_rd_N hSO h
    simp only [F_cp, N_rs]
    have har := N_ar_in h.1
    by_cases hx : F_rd mem s p x = x
    · rw [if_pos hx]
      rw [hx] at hg
      have hd : (N_rd a v k).1 = 0 := by
        have := hg.2.2.1
        omega
      rw [if_pos hd]
      rw [hd] at hg
      exact ⟨0, by omega, hg⟩
    · rw [if_neg hx]
      obtain ⟨⟨g1, -⟩, g2, g3, g4, g5⟩ := id hg
      have hd : ¬ (N_rd a v k).1 = 0 := fun q => hx (J_Z_eq (n := (N_ar v).toNat) g4 (by omega) (fun c hc => g5 c (by omega)))
      have hle : J_Z (N_ar v).toNat (F_rd mem s p x) ≤ J_Z (N_ar v).toNat x := J_ct_le _ (fun c _ q => by
        cases hx : J_b x c with
        | false => rfl
        | true =>
          have q2 : (!J_b (F_rd mem s p x) c) = true := q
          rw [g4 c hx] at q2
          cases q2)
      rw [if_neg hd]
      obtain ⟨d, d1, d2⟩ := F_cp_N hSO kf nf _ _ (n0 + (N_rd a v k).1) (h.go hg) (by rw [g1.ss.ar]; omega) (by rw [g1.ss.ar]; omega)
      exact ⟨(N_rd a v k).1 + d, by rw [d1]; omega, hg.tr d2⟩
end
