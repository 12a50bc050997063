-- THE ANSWERS
section
variable {mem : ja_M} {b : Nat} {v : Nat → Int} {t : Int}
theorem a_ki {k : Int} (h : S_p mem b v) : (if 1 ≤ k ∧ k ≤ 32 then (if mem (b + 9) 6 < k then -1004 else mem (b + 9 + 3) ((mem (b + 9) 6 - k) % 32).toNat) else -1001) = N_ki v k := by
  obtain ⟨⟨-, -, -, p6⟩, hk, -⟩ := h
  unfold N_ki
  rw [p6]
  by_cases h1 : 1 ≤ k ∧ k ≤ 32
  · rw [if_pos h1, if_pos h1]
    by_cases h2 : v 11 < k
    · rw [if_pos h2, if_pos h2]
    · rw [if_neg h2, if_neg h2]
      have := hk (k - 1).toNat (by omega) (by omega)
      rw [show (v 11 - 1 - (((k - 1).toNat : Nat) : Int)) % 32 = (v 11 - k) % 32 by omega, show 2310 + (k - 1).toNat = (2310 + k - 1).toNat by omega] at this
      exact this
  · rw [if_neg h1, if_neg h1]
theorem a_mi {r k i : Int} (hO : N_O v t) (hSO : ja_SO mem (b + 1)) (hP : N_hP v r k i) (h : S_x mem b v) : J_bc (F_lb mem (b + 1) r i &&& (F_kn mem (b + 1) (b + 2) k ^^^ (-1))) = N_mi v r k i (N_cs v r).toNat := by
  have hS := hO.1.S
  have hs := h.1.1
  have har := N_ar_in hS
  have e3 := hs 3 (by omega)
  have e4 := hs 4 (by omega)
  rw [J_bc_ct]
  refine F_mi hSO hs (F_kn_K hS hs hP.1 (S_x_f hS h)) ⟨hP.2.1, ?_⟩ 64 ?_
  · have := hP.2.2
    unfold F_cn
    rw [e3, e4]
    omega
  · rw [e3, e4]
    unfold N_ar at har
    omega
theorem N_un_ct {x : Int64} {w : Nat → Int} {k : Int} (hK : K_b w k x) : ∀ n : Nat, (n : Int) ≤ N_ar w → N_un w (N_ar w * k) n = J_Z n x
  | 0, _ => rfl
  | n + 1, hn => by
    have ih := N_un_ct hK n (by omega)
    have hb := hK n (by omega)
    simp only [N_un]
    rw [ih]
    unfold J_Z
    rw [J_ct_s]
    by_cases hq : N_kn w (N_ar w * k + n)
    · rw [if_pos hq, hb.mpr hq]
      rfl
    · rw [if_neg hq]
      cases hx : J_b x n with
      | true => exact absurd (hb.mp hx) hq
      | false => rfl
theorem J_cm1 : ∀ e : Fin 32, J_c (-1) e.val = true := by decide +kernel
theorem a_ur {k : Int} (hO : N_O v t) (hSO : ja_SO mem (b + 1)) (hk : N_hB v k) (h : S_x mem b v) : J_bc ((ja_shl 1 (ja_cells mem (b + 1)) - 1) &&& (F_cp mem (b + 1) (-1) 37 (F_kn mem (b + 1) (b + 2) k) ^^^ (-1))) = N_ur v k := by
  have hS := hO.1.S
  have hs := h.1.1
  have har := N_ar_in hS
  obtain ⟨-, -, -, s3, s4, -⟩ := id hSO
  have hg := F_cp_S (p := -1) (a := 1) hSO hO.1 hs hk (S_x_f hS h) (fun r j r0 r1 j0 j1 => by
    have g := F_pe_in (r := r) (i := j) s3 s4 ⟨j0, j1⟩
    obtain ⟨e, he⟩ : ∃ e : Nat, F_pe r j = (e : Int) := ⟨(F_pe r j).toNat, by omega⟩
    rw [F_and_b he (by omega), J_cm1 ⟨e, by omega⟩]
    exact ⟨fun q => (by cases q), fun q => absurd (Or.inl (by decide)) q⟩)
  obtain ⟨⟨g1, -⟩, g2, -⟩ := hg
  unfold N_ur
  have hss := g1.ss
  have e1 := N_un_ct g2 (N_ar v).toNat (by rw [hss.ar]; omega)
  rw [hss.ar] at e1
  rw [e1, J_bc_ct, S_b_cells hs]
  have e2 : J_ct (J_b ((ja_shl 1 (N_ar v) - 1) &&& (F_cp mem (b + 1) (-1) 37 (F_kn mem (b + 1) (b + 2) k) ^^^ (-1)))) 64 = J_ct (J_b ((ja_shl 1 (N_ar v) - 1) &&& (F_cp mem (b + 1) (-1) 37 (F_kn mem (b + 1) (b + 2) k) ^^^ (-1)))) (N_ar v).toNat := by
    have := J_ct_tail (P := J_b ((ja_shl 1 (N_ar v) - 1) &&& (F_cp mem (b + 1) (-1) 37 (F_kn mem (b + 1) (b + 2) k) ^^^ (-1)))) (n := (N_ar v).toNat) (fun c hc => by
      rw [J_b_and, J_b_mask (k := (N_ar v).toNat) (by omega) (by omega), decide_eq_false (by omega), Bool.false_and]) (64 - (N_ar v).toNat)
    rw [show (N_ar v).toNat + (64 - (N_ar v).toNat) = 64 by omega] at this
    exact this
  rw [e2]
  unfold J_Z
  rw [J_ct_e (P := J_b ((ja_shl 1 (N_ar v) - 1) &&& (F_cp mem (b + 1) (-1) 37 (F_kn mem (b + 1) (b + 2) k) ^^^ (-1)))) (N_ar v).toNat (fun c hc => by
    rw [J_b_and, J_b_mask (k := (N_ar v).toNat) (by omega) (by omega), J_b_not, decide_eq_true (by omega : c < (N_ar v).toNat), decide_eq_true (by omega : c < 64), Bool.true_and, Bool.true_and])]
theorem a_tr {k : Int} (h : S_w mem b v) : (if 0 ≤ k ∧ k < mem (b + 6) 2 then (if -999 < mem (b + 6 + 2) k.toNat then mem (b + 6 + 2) k.toNat else -999) else -1001) = (if 0 ≤ k ∧ k ≤ v 24 - 1 then (if N_so v (v 24).toNat k.toNat < -999 then -999 else N_so v (v 24).toNat k.toNat) else -1001) := by
  obtain ⟨w1, w2, -, -, -, w6⟩ := h
  rw [w1]
  by_cases hk : 0 ≤ k ∧ k < v 24
  · rw [if_pos hk, if_pos (show 0 ≤ k ∧ k ≤ v 24 - 1 from ⟨hk.1, by omega⟩)]
    have := w6 k.toNat (by omega)
    rw [show b + 6 + 2 = b + 8 from rfl, this]
    split <;> split <;> omega
  · rw [if_neg hk, if_neg (fun q : 0 ≤ k ∧ k ≤ v 24 - 1 => hk ⟨q.1, by omega⟩)]
theorem a_lv (hO : N_O v t) (h : S_x mem b v) : R_lv mem b (mem (b + 9) 6) = if 999 < v 11 then 0 else N_lv v (v 11) := by
  have hC := hO.1.C
  obtain ⟨hb, -, -, ⟨-, -, -, p6⟩, -⟩ := id h
  rw [p6, R_lv_N hO.1 hb.1 (S_x_f hO.1.S h) ⟨by omega, by omega⟩]
  by_cases h9 : 999 < v 11
  · rw [if_pos h9, show v 11 = 1000 by omega]
    unfold N_lv
    rw [if_neg (by show ¬ (1000 : Int) < 1000; decide), Int.mul_zero]
  · rw [if_neg h9]
theorem a_tk {k : Int} (h : S_p mem b v) : (if 1 ≤ k ∧ k ≤ 3 then (if k = 3 then mem (b + 14) 2 else if k = 1 then mem (b + 14) 0 else mem (b + 14) 1) else -1001) = if 1 ≤ k ∧ k ≤ 3 then v (18 + k).toNat else -1001 := by
  obtain ⟨-, -, c0, c1, c2, -⟩ := h
  rw [c0, c1, c2]
  by_cases hk : 1 ≤ k ∧ k ≤ 3
  · rw [if_pos hk, if_pos hk]
    rcases (show k = 1 ∨ k = 2 ∨ k = 3 by omega) with rfl | rfl | rfl
    · rfl
    · rfl
    · rfl
  · rw [if_neg hk, if_neg hk]
theorem B_cd_gcd : ∀ (n k : Nat) (a c : Nat), c < 2 ^ n → 2 * n + 1 ≤ k → B_cd k (a : Int) (c : Int) = (Nat.gcd a c : Nat)
  | n, 0, a, c, _, hk => by omega
  | 0, k + 1, a, c, hc, _ => by
    have h0 : c = 0 := by
      rw [Nat.pow_zero] at hc
      omega
    subst h0
    simp only [B_cd]
    rw [if_pos (show ((0 : Nat) : Int) = 0 from rfl), Nat.gcd_zero_right]
  | n + 1, k + 1, a, c, hc, hk => by
    simp only [B_cd]
    by_cases h0 : (c : Int) = 0
    · have h1 : c = 0 := by omega
      subst h1
      rw [if_pos (show ((0 : Nat) : Int) = 0 from rfl), Nat.gcd_zero_right]
    · rw [if_neg h0]
      have e1 : ((a : Int) % (c : Int)) = ((a % c : Nat) : Int) := by omega
      have hg : Nat.gcd a c = Nat.gcd c (a % c) := by rw [Nat.gcd_comm a c, Nat.gcd_rec, Nat.gcd_comm]
      rw [e1, hg]
      obtain ⟨k2, rfl⟩ : ∃ k2, k = k2 + 1 := ⟨k - 1, by omega⟩
      simp only [B_cd]
      by_cases hr : ((a % c : Nat) : Int) = 0
      · have h1 : a % c = 0 := by omega
        rw [if_pos hr, h1, Nat.gcd_zero_right]
      · rw [if_neg hr]
        have hlt : a % c < c := Nat.mod_lt _ (by omega)
        have hp : 0 < a % c := by omega
        have e2 : ((c : Int) % ((a % c : Nat) : Int)) = ((c % (a % c) : Nat) : Int) := by
          generalize a % c = q
          omega
        have hg2 : Nat.gcd c (a % c) = Nat.gcd (a % c) (c % (a % c)) := by rw [Nat.gcd_comm c, Nat.gcd_rec, Nat.gcd_comm]
        rw [e2, hg2]
        refine B_cd_gcd n k2 _ _ ?_ (by omega)
        have hm : c % (a % c) < a % c := Nat.mod_lt _ hp
        have hd := Nat.div_add_mod c (a % c)
        have hq : 1 ≤ c / (a % c) := (Nat.le_div_iff_mul_le hp).mpr (by omega)
        have hmul : a % c * 1 ≤ a % c * (c / (a % c)) := Nat.mul_le_mul_left _ hq
        rw [Nat.pow_succ] at hc
        omega
theorem a_ls {y : Nat} {d : Int} (hO : N_O v t) (hd : 0 ≤ d ∧ d ≤ 1) (h : S_p mem (y + 1) v) : B_los mem y d = N_ls v d := by
  have hC := hO.1.C
  have h21 := hO.2.1.2.2.2.2.2.1
  obtain ⟨⟨-, -, -, p6⟩, -, -, -, c2, -⟩ := h
  unfold B_los N_ls
  rw [p6, c2]
  by_cases h1 : v 11 = 0
  · rw [if_pos h1, if_pos (show v 21 = 0 by omega)]
  · have hgcd := B_cd_gcd 10 64 (v 11).toNat (v 21).toNat (by omega) (by omega)
    rw [show (((v 11).toNat : Nat) : Int) = v 11 by omega, show (((v 21).toNat : Nat) : Int) = v 21 by omega] at hgcd
    rw [if_neg h1, hgcd]
    by_cases h2 : v 21 = 0
    · rw [if_pos h2, h2, show ((0 : Int).toNat) = 0 from rfl, Nat.gcd_zero_right]
      by_cases hd0 : d = 0
      · rw [if_pos hd0, if_pos hd0, Int.zero_ediv]
      · rw [if_neg hd0, if_neg hd0]
        by_cases hg : 1 < (((v 11).toNat : Nat) : Int)
        · rw [if_pos hg, show (((v 11).toNat : Nat) : Int) = v 11 by omega, Int.ediv_self (by omega)]
        · rw [if_neg hg, show v 11 = 1 by omega]
          rfl
    · rw [if_neg h2]
      have hpos : 0 < Nat.gcd (v 11).toNat (v 21).toNat := Nat.gcd_pos_of_pos_left _ (by omega)
      by_cases hg : 1 < ((Nat.gcd (v 11).toNat (v 21).toNat : Nat) : Int)
      · rw [if_pos hg]
      · rw [if_neg hg, show ((Nat.gcd (v 11).toNat (v 21).toNat : Nat) : Int) = 1 by omega]
end
-- what a tick does to the outputs and to the concealed ones, by the reference
theorem N_ti_12 {v : Nat → Int} {t : Int} (hO : N_O v t) (ht : t ≤ 900000) : N_to v = N_ti v 12 - v 12 := by
  have hOt := N_t1_O hO ht
  have e1 : N_t1 v 12 = v 12 := by
    unfold N_t1
    rw [ja_rs_n (by omega), (N_as_O hO ht).2 12 (by omega) (by omega)]
  have e2 : N_t2 (N_t1 v) 12 = N_t1 v 12 := by
    unfold N_t2
    split
    · rename_i hc
      rw [ja_rs_n (by omega)]
      exact (N_tk_O hOt hc.2).2.2.2 12 (by omega)
    · rfl
  unfold N_to N_ti N_pl
  rw [ja_rs_n (by omega)]
  by_cases hon : N_on (N_t1 v)
  · rw [if_pos hon]
    unfold N_t3
    by_cases hq : N_t2 (N_t1 v) 23 < N_t2 (N_t1 v) 22
    · rw [if_pos ⟨hon, hq⟩, if_pos hq, ja_rs_n (by omega), ja_rs_s, e2, e1]
      omega
    · rw [if_neg (fun q => hq q.2), if_neg hq, e2, e1]
      omega
  · rw [if_neg (fun q => hon q.1), if_neg hon, e1]
    omega
theorem N_ti_27 {v : Nat → Int} {t : Int} (hO : N_O v t) (ht : t ≤ 900000) : N_ti v 21 = v 21 + if N_ti v 27 = 3 then 1 else 0 := by
  have hOt := N_t1_O hO ht
  have e1 : N_t1 v 21 = v 21 := by
    unfold N_t1
    rw [ja_rs_n (by omega), (N_as_O hO ht).2 21 (by omega) (by omega)]
  have e27 : N_t1 v 27 = 0 := by
    unfold N_t1
    rw [ja_rs_s]
  have key : N_t2 (N_t1 v) 21 = v 21 + if N_t2 (N_t1 v) 27 = 3 then 1 else 0 := by
    unfold N_t2
    by_cases hc : N_t1 v 23 = N_t1 v 22 ∧ N_t1 v 11 ≤ 999
    · rw [if_pos hc, ja_rs_s, ja_rs_n (by omega), N_tk_e _ (by omega) (by omega), (N_tu_R hOt hc.2).2.1 21 (by omega), e1]
      have hk := N_tk_kd hOt hc.2 0 (by omega)
      rw [if_pos rfl, Nat.add_zero] at hk
      rw [hk]
      have hin := @N_kd_in (N_t1 v) (N_t1 v 11)
      by_cases h3 : N_kd (N_t1 v) (N_t1 v 11) = 3
      · rw [if_pos h3, if_pos (by omega)]
      · rw [if_neg h3, if_neg (by omega)]
    · rw [if_neg hc, e27, e1, if_neg (by decide)]
      omega
  have t3 : ∀ j, j = 21 ∨ j = 27 → N_t3 (N_t2 (N_t1 v)) j = N_t2 (N_t1 v) j := fun j hj => by
    have hC := (N_t2_O hOt).1.1.C
    unfold N_t3
    split
    · rw [ja_rs_n (by omega), ja_rs_n (by omega), ja_rs_n (by omega)]
    · rfl
  unfold N_ti N_pl
  rw [ja_rs_n (by omega), ja_rs_n (by omega)]
  by_cases hon : N_on (N_t1 v)
  · rw [if_pos hon, t3 21 (by omega), t3 27 (by omega)]
    exact key
  · rw [if_neg hon, e27, e1, if_neg (by decide)]
    omega
theorem N_at_v {v : Nat → Int} {t : Int} (hO : N_O v t) : ∀ k : Nat, t + k ≤ 900001 → N_at v k = N_ad v k 12 - v 12
  | 0, _ => by
    simp only [N_at, N_ad]
    omega
  | k + 1, hk => by
    have ih := N_at_v hO k (by omega)
    have h := N_ti_12 (N_ad_O hO k (by omega)) (by omega)
    simp only [N_at, N_ad]
    omega
theorem N_ag_v {v : Nat → Int} {t : Int} (hO : N_O v t) : ∀ k : Nat, t + k ≤ 900001 → N_ag v k = N_ad v k 21 - v 21
  | 0, _ => by
    simp only [N_ag, N_ad]
    omega
  | k + 1, hk => by
    have ih := N_ag_v hO k (by omega)
    have h := N_ti_27 (N_ad_O hO k (by omega)) (by omega)
    simp only [N_ag, N_ad]
    rw [h, ih]
    omega
section
variable {mem : ja_M} {b : Nat} {v : Nat → Int} {t : Int}
theorem a_adv (hR : ja_RO mem b t) (hO : N_O v t) (h : S1 mem b v) (k : Nat) (hk : t + k ≤ 900001) : B_adv mem b k (b + 9) 4 - mem (b + 9) 4 = N_at v k := by
  have h2 := S_adv S1_ok.2.2.2.2.2.2.2.1 hR hO h k hk
  rw [h2.1.2.2.2.1.2.2.1, h.1.2.2.2.1.2.2.1, N_at_v hO k hk]
theorem a_ag (hR : ja_RO mem b t) (hO : N_O v t) (h : S1 mem b v) (k : Nat) (hk : t + k ≤ 900001) : B_adv mem b k (b + 14) 2 - mem (b + 14) 2 = N_ag v k := by
  have h2 := S_adv S1_ok.2.2.2.2.2.2.2.1 hR hO h k hk
  rw [h2.1.2.2.2.2.2.2.2.1, h.1.2.2.2.2.2.2.2.1, N_ag_v hO k hk]
theorem a_gap {c : Int} : ∀ (r i : Nat) (mem : ja_M) (v : Nat → Int) (t : Int), ja_RO mem b t → N_O v t → t + r ≤ 900001 → S1 mem b v → mem (b + 14) 2 = c → (B_gap b c r i mem).1 = N_xg r i v
  | 0, _, _, _, _, _, _, _, _, _ => rfl
  | r + 1, i, mem, v, t, hR, hO, ht, h, hc => by
    have h2 := S1_ok.2.2.2.2.2.2.2.1 mem b v t hR hO (by omega) h
    have e := N_ti_27 hO (by omega)
    have e1 := h2.1.2.2.2.2.2.2.2.1
    have e0 := h.1.2.2.2.2.2.2.2.1
    simp only [B_gap, N_xg]
    by_cases hq : N_ti v 27 = 3
    · rw [if_pos hq] at e ⊢
      rw [if_pos (by omega)]
    · rw [if_neg hq] at e ⊢
      rw [if_neg (by omega)]
      exact a_gap r (i + 1) _ _ (t + 1) (R_tk_RO hR (by omega)) (N_ti_O hO (by omega)) (by omega) h2 (by omega)
theorem a_fra {x : Int} : ∀ (r i : Nat) (mem : ja_M) (v : Nat → Int) (t : Int), ja_RO mem b t → N_O v t → t + r ≤ 900001 → S1 mem b v → (B_fra b x r i mem).1 = N_xf x r i v
  | 0, _, _, _, _, _, _, _, _ => rfl
  | r + 1, i, mem, v, t, hR, hO, ht, h => by
    have h2 := S1_ok.2.2.2.2.2.2.2.1 mem b v t hR hO (by omega) h
    have e1 := h2.1.2.2.2.1.2.2.2
    simp only [B_fra, N_xf]
    rw [e1]
    by_cases hq : x < N_ti v 11
    · rw [if_pos hq, if_pos hq]
    · rw [if_neg hq, if_neg hq]
      exact a_fra r (i + 1) _ _ (t + 1) (R_tk_RO hR (by omega)) (N_ti_O hO (by omega)) (by omega) h2
/-- the forecast is tied too -/
theorem a_cp {y : Nat} (hR : ja_RO mem (y + 1) t) (h : S1 mem (y + 1) v) : S1 (R_cp mem (y + 21) (y + 1)) (y + 21) v := S1_ok.2.1 mem _ (y + 21) (y + 1) v t hR (R_cp_eq (by omega) hR.2.2.2.1.1) h
end
