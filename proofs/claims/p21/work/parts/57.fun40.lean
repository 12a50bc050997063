-- THE WINDOW OF BOTH
theorem T_ins_o {v : Int} : ∀ (h : Nat) (f : Nat → Int) (j : Nat), h < j → T_ins f v h j = f j
  | 0, f, j, hj => by
    simp only [T_ins]
    exact ja_rs_n (by omega)
  | h + 1, f, j, hj => by
    simp only [T_ins]
    split
    · rw [T_ins_o h _ j (by omega), ja_rs_n (by omega)]
    · exact ja_rs_n (by omega)
theorem T_inb {v : Int} {P : Int → Prop} (hv : P v) : ∀ (h : Nat) (f : Nat → Int), (∀ j, j < h → P (f j)) → ∀ j, j ≤ h → P (T_ins f v h j)
  | 0, f, hf, j, hj => by
    simp only [T_ins]
    rw [show j = 0 by omega, ja_rs_s]
    exact hv
  | h + 1, f, hf, j, hj => by
    simp only [T_ins]
    split
    · by_cases hjh : j = h + 1
      · rw [T_ins_o h _ j (by omega), hjh, ja_rs_s]
        exact hf h (by omega)
      · exact T_inb hv h _ (fun q hq => by rw [ja_rs_n (by omega)]; exact hf q (by omega)) j (by omega)
    · by_cases hjh : j = h + 1
      · rw [hjh, ja_rs_s]
        exact hv
      · rw [ja_rs_n hjh]
        exact hf j (by omega)
/-- how many of the first k are at most z -/
def T_cl (f : Nat → Int) (z : Int) (k : Nat) : Nat := J_ct (fun i => decide (f i ≤ z)) k
/-- ascending -/
def T_od (f : Nat → Int) (k : Nat) : Prop := ∀ i j, i ≤ j → j < k → f i ≤ f j
theorem T_cl_s (f : Nat → Int) (z : Int) (k : Nat) : T_cl f z (k + 1) = T_cl f z k + if f k ≤ z then 1 else 0 := by
  unfold T_cl
  rw [J_ct_s]
  by_cases h : f k ≤ z
  · rw [if_pos h, decide_eq_true h]
    rfl
  · rw [if_neg h, decide_eq_false h]
    rfl
theorem T_cl_e {f g : Nat → Int} (z : Int) : ∀ k : Nat, (∀ i, i < k → f i = g i) → T_cl f z k = T_cl g z k
  | 0, _ => rfl
  | k + 1, h => by
    rw [T_cl_s, T_cl_s, T_cl_e z k (fun i hi => h i (by omega)), h k (by omega)]
theorem T_ins_cl {v : Int} (z : Int) : ∀ (h : Nat) (f : Nat → Int), T_cl (T_ins f v h) z (h + 1) = T_cl f z h + if v ≤ z then 1 else 0
  | 0, f => by
    rw [T_cl_s, show T_ins f v 0 0 = v from ja_rs_s _ _ _]
    rfl
  | h + 1, f => by
    by_cases hv : v < f h
    · have e : T_ins f v (h + 1) = T_ins (ja_rs f (h + 1) (f h)) v h := if_pos hv
      rw [T_cl_s, e, T_ins_cl z h, T_ins_o h _ (h + 1) (by omega), ja_rs_s, T_cl_s f z h, T_cl_e (g := f) z h (fun i hi => ja_rs_n (by omega))]
      omega
    · have e : T_ins f v (h + 1) = ja_rs f (h + 1) v := if_neg hv
      rw [T_cl_s, e, ja_rs_s, T_cl_e (g := f) z (h + 1) (fun i hi => ja_rs_n (by omega))]
theorem T_srt_cl (f g : Nat → Int) (z : Int) : ∀ k : Nat, T_cl (T_srt f g k) z k = T_cl f z k
  | 0 => rfl
  | k + 1 => by
    rw [T_cl_s f z k, ← T_srt_cl f g z k]
    exact T_ins_cl z k _
theorem T_ins_od {v : Int} : ∀ (h : Nat) (f : Nat → Int), T_od f h → T_od (T_ins f v h) (h + 1)
  | 0, f, _ => fun i j hij hj => by
    rw [show i = 0 by omega, show j = 0 by omega]
    exact Int.le_refl _
  | h + 1, f, hf => fun i j hij hj => by
    simp only [T_ins]
    split
    · rename_i hv
      have hf' : T_od (ja_rs f (h + 1) (f h)) h := fun a c hac hc => by
        rw [ja_rs_n (by omega), ja_rs_n (by omega)]
        exact hf a c hac (by omega)
      by_cases hjh : j = h + 1
      · by_cases hih : i = h + 1
        · rw [hjh, hih]
          exact Int.le_refl _
        · rw [hjh, T_ins_o h _ (h + 1) (by omega), ja_rs_s]
          exact T_inb (P := fun q => q ≤ f h) (by omega) h _ (fun q hq => by rw [ja_rs_n (by omega)]; exact hf q h (by omega) (by omega)) i (by omega)
      · exact T_ins_od h _ hf' i j hij (by omega)
    · rename_i hv
      by_cases hjh : j = h + 1
      · by_cases hih : i = h + 1
        · rw [hjh, hih]
          exact Int.le_refl _
        · rw [hjh, ja_rs_s, ja_rs_n hih]
          have := hf i h (by omega) (by omega)
          omega
      · rw [ja_rs_n (by omega), ja_rs_n (by omega)]
        exact hf i j hij (by omega)
theorem T_srt_od (f g : Nat → Int) : ∀ k : Nat, T_od (T_srt f g k) k
  | 0 => fun i j _ hj => by omega
  | k + 1 => T_ins_od k _ (T_srt_od f g k)
theorem T_cl_le (f : Nat → Int) (z : Int) (k : Nat) : T_cl f z k ≤ k := J_ct_n _ _
theorem T_cl_all {f : Nat → Int} {z : Int} : ∀ k : Nat, (∀ i, i < k → f i ≤ z) → T_cl f z k = k
  | 0, _ => rfl
  | k + 1, h => by
    rw [T_cl_s, T_cl_all k (fun i hi => h i (by omega)), if_pos (h k (by omega))]
/-- ascending, with the same numbers: the same -/
theorem T_od_eq {a c : Nat → Int} : ∀ k : Nat, T_od a k → T_od c k → (∀ z, T_cl a z k = T_cl c z k) → ∀ j, j < k → a j = c j
  | 0, _, _, _, j, hj => by omega
  | k + 1, ha, hc, h, j, hj => by
    have hl : a k = c k := by
      rcases Int.lt_trichotomy (a k) (c k) with q | q | q
      · have h1 := h (a k)
        rw [T_cl_all (f := a) (k + 1) (fun i hi => ha i k (by omega) (by omega)), T_cl_s, if_neg (by omega)] at h1
        have := T_cl_le c (a k) k
        omega
      · exact q
      · have h1 := h (c k)
        rw [T_cl_all (f := c) (k + 1) (fun i hi => hc i k (by omega) (by omega)), T_cl_s, if_neg (by omega)] at h1
        have := T_cl_le a (c k) k
        omega
    by_cases hjk : j = k
    · rw [hjk]
      exact hl
    · refine T_od_eq k (fun i j a1 a2 => ha i j a1 (by omega)) (fun i j a1 a2 => hc i j a1 (by omega)) (fun z => ?_) j (by omega)
      have h1 := h z
      rw [T_cl_s, T_cl_s, hl] at h1
      omega
theorem T_rot1 (f : Nat → Int) (z : Int) : T_cl (fun i => f ((i + 1) % 16)) z 16 = T_cl f z 16 := by
  unfold T_cl
  have e := J_ct_l (fun i => decide (f i ≤ z)) 15
  rw [e]
  have e2 : J_ct (fun i => decide (f ((i + 1) % 16) ≤ z)) 16 = J_ct (fun i => decide (f ((i + 1) % 16) ≤ z)) 15 + (decide (f 0 ≤ z)).toNat := rfl
  rw [e2, J_ct_e (P := fun i => decide (f ((i + 1) % 16) ≤ z)) (Q := fun i => decide (f (i + 1) ≤ z)) 15 (fun c hc => by rw [Nat.mod_eq_of_lt (by omega)])]
  omega
theorem T_rot (f : Nat → Int) (z : Int) : ∀ P : Nat, T_cl (fun i => f ((P + i) % 16)) z 16 = T_cl f z 16
  | 0 => T_cl_e z 16 (fun i hi => by rw [Nat.zero_add, Nat.mod_eq_of_lt hi])
  | P + 1 => by
    rw [← T_rot f z P, ← T_rot1 (fun i => f ((P + i) % 16)) z]
    exact T_cl_e z 16 (fun i hi => by
      show f ((P + 1 + i) % 16) = f ((P + (i + 1) % 16) % 16)
      rw [show (P + (i + 1) % 16) % 16 = (P + 1 + i) % 16 by omega])
theorem T_srt_f {f f' g : Nat → Int} : ∀ k : Nat, (∀ i, i < k → f i = f' i) → T_srt f g k = T_srt f' g k
  | 0, _ => rfl
  | k + 1, h => by
    simp only [T_srt]
    rw [T_srt_f k (fun i hi => h i (by omega)), h k (by omega)]
/-- the window of both -/
def S_w : S_T := fun mem b v => mem (b + 6) 2 = v 24 ∧ (0 ≤ v 24 ∧ v 24 ≤ 16) ∧ (0 ≤ mem (b + 6) 3 ∧ mem (b + 6) 3 < 16) ∧ (v 24 < 16 → mem (b + 6) 3 = v 24) ∧ (∀ i : Nat, (i : Int) < v 24 → mem (b + 7) ((mem (b + 6) 3 + 16 - v 24 + i) % 16).toNat = v (2372 + i)) ∧ ∀ j : Nat, (j : Int) < v 24 → mem (b + 8) j = N_so v (v 24).toNat j
theorem N_so_f {v w : Nat → Int} (k : Nat) (h : ∀ i, i < k → w (2372 + i) = v (2372 + i)) : N_so w k = N_so v k := T_srt_f k (fun i hi => h i hi)
theorem S_w_cg {mem mem' : ja_M} {b : Nat} {v v' : Nat → Int} (hm : ∀ q, b + 6 ≤ q → q ≤ b + 8 → mem' q = mem q) (hv : ∀ j, (j = 24 ∨ (2372 ≤ j ∧ j < 2388)) → v' j = v j) (h : S_w mem b v) : S_w mem' b v' := by
  obtain ⟨h1, h2, h3, h4, h5, h6⟩ := h
  have e := hv 24 (Or.inl rfl)
  unfold S_w
  rw [e, hm (b + 6) (by omega) (by omega), hm (b + 7) (by omega) (by omega), hm (b + 8) (by omega) (by omega), N_so_f (v := v) (v 24).toNat (fun i hi => hv _ (by omega))]
  exact ⟨h1, h2, h3, h4, fun i hi => by rw [hv _ (by omega)]; exact h5 i hi, h6⟩
/-- a transit comes in -/
theorem T_add_N {mem : ja_M} {b : Nat} {v : Nat → Int} {t : Int} (h : S_w mem b v) : S_w (T_add mem (b + 6) t) b (N_se v t) := by
  obtain ⟨h1, h2, h3, h4, h5, h6⟩ := h
  have r62 : T_add mem (b + 6) t (b + 6) 2 = T_ct mem (b + 6) := by
    unfold T_add
    rw [ja_rw_n (by omega), ja_up_s]
  have r63 : T_add mem (b + 6) t (b + 6) 3 = (mem (b + 6) 3 + 1) % 16 := by
    unfold T_add
    rw [ja_rw_n (by omega), ja_up_j (by omega), ja_up_s]
  have r7 : ∀ j, T_add mem (b + 6) t (b + 7) j = ja_rs (mem (b + 7)) (mem (b + 6) 3).toNat t j := fun j => by
    unfold T_add
    rw [ja_rw_n (by omega), ja_up_a (by omega), ja_up_a (by omega)]
    unfold ja_up ja_rs
    by_cases hj : j = (mem (b + 6) 3).toNat
    · rw [if_pos ⟨rfl, hj⟩, if_pos hj]
    · rw [if_neg (fun q => hj q.2), if_neg hj]
  have r8 : T_add mem (b + 6) t (b + 8) = T_srt (ja_rs (mem (b + 7)) (mem (b + 6) 3).toNat t) (mem (b + 8)) (T_ct mem (b + 6)).toNat := by
    unfold T_add
    exact ja_rw_s _ _ _
  have w24 : N_se v t 24 = N_s0 v 24 + 1 := by
    unfold N_se
    rw [ja_rs_s]
  generalize hP : mem (b + 6) 3 = P at *
  by_cases hc : v 24 = 16
  · have s24 : N_s0 v 24 = 15 := by
      unfold N_s0
      rw [if_pos hc, ja_rs_s]
    have hct : T_ct mem (b + 6) = 16 := by
      unfold T_ct
      rw [h1, hc]
      rfl
    have wi : ∀ i : Nat, i < 16 → N_se v t (2372 + i) = if i = 15 then t else v (2372 + i + 1) := fun i hi => by
      unfold N_se
      rw [s24, ja_rs_n (by omega)]
      by_cases h15 : i = 15
      · subst h15
        rw [if_pos rfl]
        exact ja_rs_s _ _ _
      · rw [if_neg h15, ja_rs_n (by omega)]
        unfold N_s0
        rw [if_pos hc, ja_rs_n (by omega)]
        have : ∀ n : Nat, n ≤ 15 → ∀ i, i < n → N_sh v n (2372 + i) = v (2372 + i + 1) := fun n => by
          induction n with
          | zero =>
            intro _ i hi
            omega
          | succ n ih =>
            intro hn i hi
            simp only [N_sh]
            by_cases hin : i = n
            · subst hin
              rw [ja_rs_s]
            · rw [ja_rs_n (by omega)]
              exact ih (by omega) i (by omega)
        exact this 15 (by omega) i (by omega)
    have hring : ∀ i : Nat, i < 16 → T_add mem (b + 6) t (b + 7) (((P + 1) % 16 + i) % 16).toNat = N_se v t (2372 + i) := fun i hi => by
      rw [r7, wi i hi]
      by_cases h15 : i = 15
      · rw [if_pos h15, show (((P + 1) % 16 + i) % 16).toNat = P.toNat by omega, ja_rs_s]
      · rw [if_neg h15, ja_rs_n (by omega)]
        have h5i := h5 (i + 1) (by omega)
        rw [hc] at h5i
        rw [show (((P + 1) % 16 + i) % 16).toNat = ((P + 16 - 16 + ((i + 1 : Nat) : Int)) % 16).toNat by omega, h5i]
        rfl
    unfold S_w
    rw [r62, r63, hct, w24, s24, show ((15 : Int) + 1) = 16 from rfl]
    refine ⟨rfl, by omega, by omega, fun q => by omega, fun i hi => ?_, fun j hj => ?_⟩
    · rw [show ((P + 1) % 16 + 16 - 16 + (i : Int)) % 16 = ((P + 1) % 16 + i) % 16 by omega]
      exact hring i (by omega)
    · rw [r8, hct, show ((16 : Int).toNat) = 16 from rfl]
      refine T_od_eq 16 (T_srt_od _ _ 16) (T_srt_od _ _ 16) (fun z => ?_) j (by omega)
      rw [T_srt_cl]
      refine Eq.trans ?_ (T_srt_cl (fun i => N_se v t (2372 + (i : Int)).toNat) (fun _ => 0) z 16).symm
      rw [← T_rot _ z ((P + 1) % 16).toNat]
      refine T_cl_e z 16 (fun i hi => ?_)
      have hr := hring i hi
      rw [r7] at hr
      rw [show (((P + 1) % 16).toNat + i) % 16 = (((P + 1) % 16 + i) % 16).toNat by omega, hr]
      rfl
  · have hlt : v 24 < 16 := by omega
    have hPc := h4 hlt
    have s0 : N_s0 v = v := by
      unfold N_s0
      rw [if_neg hc]
    have hct : T_ct mem (b + 6) = v 24 + 1 := by
      unfold T_ct
      rw [h1]
      split <;> omega
    have wi : ∀ i : Nat, (i : Int) < v 24 + 1 → N_se v t (2372 + i) = ja_rs (mem (b + 7)) P.toNat t i := fun i hi => by
      unfold N_se
      rw [s0, ja_rs_n (by omega)]
      by_cases hi2 : (i : Int) = v 24
      · rw [show (2372 + v 24).toNat = 2372 + i by omega, ja_rs_s, show P.toNat = i by omega, ja_rs_s]
      · have h5i := h5 i (by omega)
        rw [hPc, show ((v 24 + 16 - v 24 + (i : Int)) % 16).toNat = i by omega] at h5i
        rw [ja_rs_n (by omega), ja_rs_n (by omega), h5i]
    unfold S_w
    rw [r62, r63, hct, w24, s0]
    refine ⟨rfl, by omega, by omega, fun q => by omega, fun i hi => ?_, fun j hj => ?_⟩
    · rw [show (((P + 1) % 16 + 16 - (v 24 + 1) + (i : Int)) % 16).toNat = i by omega, r7]
      exact (wi i hi).symm
    · rw [r8, hct]
      have e : N_so (N_se v t) (v 24 + 1).toNat = T_srt (ja_rs (mem (b + 7)) P.toNat t) (fun _ => 0) (v 24 + 1).toNat := T_srt_f _ (fun i hi => wi i (by omega))
      rw [e]
      exact T_srt_c _ j (by omega)
theorem T_spr_N {mem : ja_M} {b : Nat} {v : Nat → Int} (hS : N_S v) (hs : ∀ j, j < 9 → mem (b + 1) j = v j) (h : S_w mem b v) : R_tg mem b = N_tg v := by
  obtain ⟨h1, h2, h3, h4, h5, h6⟩ := h
  obtain ⟨-, -, -, -, -, -, q6, -⟩ := hS
  unfold R_tg T_spr N_tg
  rw [h1, hs 6 (by omega), hs 7 (by omega)]
  by_cases h0 : v 24 = 0
  · rw [if_pos h0, if_pos h0]
    omega
  · rw [if_neg h0, if_neg h0, show b + 6 + 2 = b + 8 from rfl]
    have m1 := Int.mul_le_mul_of_nonneg_right q6.2 (by omega : 0 ≤ v 24)
    have m2 := Int.mul_le_mul_of_nonneg_right q6.1 (by omega : 0 ≤ v 24)
    rw [h6 _ (by omega), h6 0 (by omega)]
theorem R_lv_N {mem : ja_M} {b : Nat} {v : Nat → Int} (hR : N_R v) (hs : ∀ j, j < 9 → mem (b + 1) j = v j) (h : S_f mem b v) {x : Int} (hx : 0 ≤ x ∧ x ≤ 1000) : R_lv mem b x = N_lv v x := by
  have key : ∀ (k : Nat) (x : Int), 0 ≤ x → x + k ≤ 1000 → F_fr mem (b + 1) (b + 2) x k = N_fo v x k := fun k => by
    induction k with
    | zero =>
      intro x _ _
      rfl
    | succ k ih =>
      intro x h0 h1
      have hst := F_st_v hR hs h (x := x) ⟨h0, by omega⟩
      have hF := hR.F (j := (30 + x).toNat) (by omega) (by omega)
      simp only [F_fr, N_fo]
      rw [hst]
      by_cases hk : N_kn v x
      · have : 0 < v (30 + x).toNat := hk.elim (fun q => by omega) id
        rw [if_pos hk, if_neg (by omega)]
        exact ih (x + 1) (by omega) (by omega)
      · rw [if_neg hk, if_pos (by
          have : ¬ 0 < v (30 + x).toNat := fun q => hk (Or.inr q)
          omega)]
  have hin := @N_fo_in v (1000 - x).toNat x
  unfold R_lv N_lv
  rw [key _ x hx.1 (by omega), hs 0 (by omega)]
  congr 1
  split <;> omega
