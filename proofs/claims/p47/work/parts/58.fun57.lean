-- THE LAW'S RUN: a fresh object, the counts of the double, the room
theorem r_gen {C : ja_C} {cells slots n pc : Nat} {lay : ja_Y} {mem : ja_M} {ls : List (Option Value)} {st : List Value} (A B : Nat) (hc : cells ≤ A) (hs : slots ≤ B) (k : ∀ c s : Nat, c ≤ A → s ≤ B → ja_W C c s lay mem n pc ls st) : ja_W C cells slots lay mem n pc ls st := k _ _ hc hs
theorem N_ti_s9 {v : Nat → Int} {t : Int} (h : N_O v t) (ht : t ≤ 900000) : ∀ j, j < 9 → N_ti v j = v j := fun _ hj => N_ti_n h ht hj
theorem N_ad_9 {v : Nat → Int} {t : Int} (h : N_O v t) : ∀ k : Nat, t + k ≤ 900001 → ∀ j, j < 9 → N_ad v k j = v j
  | 0, _, j, _ => rfl
  | k + 1, hk, j, hj => (N_ti_n (N_ad_O h k (by omega)) (by omega) hj).trans (N_ad_9 h k (by omega) j hj)
theorem N_av_18 {v : Nat → Int} {t x : Int} (h : N_O v t) (ht : t ≤ 900000) (hx : 0 ≤ x ∧ x ≤ 999) : v 18 ≤ N_av v x 18 ∧ N_av v x 18 ≤ v 18 + 1 := by
  by_cases q : N_kn v x
  · rw [(N_av_known q).1, ja_rs_s]
    omega
  · rw [(N_av_new h ht hx q).2.1]
    omega
theorem N_qv_18 {v : Nat → Int} {t r k i : Int} (h : N_O v t) (ht : t ≤ 900000) (hr : 0 ≤ r ∧ r ≤ 1) (hP : N_hP v r k i) : v 18 ≤ N_qv v r k i 18 ∧ N_qv v r k i 18 ≤ v 18 + 1 := by
  by_cases q : v (N_pk v r k i).toNat = 1
  · rw [(N_qv_known q).1, ja_rs_s]
    omega
  · rw [(N_qv_new h ht hr hP q).2.1]
    omega
theorem N_ab_18 {v : Nat → Int} {t : Int} (h : N_O v t) (ht : t ≤ 900000) : ∀ i : Nat, (i : Int) ≤ v 25 → v 18 ≤ (N_ab v i).2 18 ∧ (N_ab v i).2 18 ≤ v 18 + i
  | 0, _ => by simp [N_ab]
  | i + 1, hi => by
    have ih := N_ab_18 h ht i (by omega)
    obtain ⟨hO, ⟨l0, l1⟩, hk⟩ := N_ab_O h ht i (by omega)
    have hc := hO.1.C
    have h25 := hk 25 (by omega) (by omega)
    have hpe := hO.2.2 (i : Int) (by omega) (by omega)
    have hp1 := hO.1.P (j := (2388 + 4 * (i : Int) + 1).toNat) (by omega) (by omega)
    simp only [N_ab]
    generalize (N_ab v i).2 = w at *
    generalize (N_ab v i).1 = l at *
    split
    · dsimp only
      split
      · rename_i hz
        have := N_av_18 hO ht ⟨hp1.1, hpe.2.1 hz⟩
        omega
      · rename_i hz
        have hh := hpe.2.2 hz
        have := N_qv_18 (r := if w (2388 + 4 * (i : Int)).toNat = 1 then 1 else 0) hO ht (by split <;> omega) hh
        omega
    · dsimp only
      rw [N_c4_n 4 (fun c hc => by omega)]
      omega
theorem N_pl_18 {a : Nat → Int} {t : Int} (h : N_O a t) : N_pl a 18 = a 18 := by
  have h2 : N_t2 a 18 = a 18 := by
    unfold N_t2
    split
    · rename_i hc
      have hkd := @N_kd_in a (a 11)
      rw [ja_rs_n (by omega), N_tk_e a (by omega) (by omega), if_neg (by omega), (N_tu_R h hc.2).2.1 18 (by omega)]
      omega
    · rfl
  unfold N_pl
  split
  · unfold N_t3
    split
    · have hC := (N_t2_O h).1.1.C
      rw [ja_rs_n (by omega), ja_rs_n (by omega), ja_rs_n (by omega), h2]
    · exact h2
  · rfl
theorem N_ti_18 {v : Nat → Int} {t : Int} (h : N_O v t) (ht : t ≤ 900000) : v 18 ≤ N_ti v 18 ∧ N_ti v 18 ≤ v 18 + 24 := by
  have hC := h.1.C
  have hb := N_ab_18 h ht (v 25).toNat (by omega)
  unfold N_ti
  rw [ja_rs_n (by omega), N_pl_18 (N_t1_O h ht)]
  unfold N_t1 N_as
  rw [ja_rs_n (by omega), ja_rs_n (by omega)]
  omega
theorem N_ad_18 {v : Nat → Int} {t : Int} (h : N_O v t) : ∀ k : Nat, t + k ≤ 900001 → v 18 ≤ N_ad v k 18 ∧ N_ad v k 18 ≤ v 18 + 24 * k
  | 0, _ => by simp [N_ad]
  | k + 1, hk => by
    have ih := N_ad_18 h k (by omega)
    have := N_ti_18 (N_ad_O h k (by omega)) (by omega)
    rw [N_ad_s]
    omega
/-- a fresh object, its settings perhaps set -/
def Fr7 (lay : ja_Y) (mem : ja_M) (n y : Nat) (v : Nat → Int) : Prop := I7 lay mem n y (fun _ => none) 0 v ∧ mem (y + 1) 7 = 0 ∧ mem (y + 1 + 15) 4 = 0 ∧ (∀ j, 9 ≤ j → j ≠ 10 → v j = 0) ∧ v 10 < 0
theorem Fr7_0 {lay : ja_Y} {mem : ja_M} {y : Nat} (hB : ja_LB lay y (fun _ => none)) (hS1 : ja_S0 mem (y + 1 + 1)) (hS2 : ja_S0 mem (y + 21 + 1)) (hz : ∀ q j, y ≤ q → q < y + 49 → q ≠ y + 1 + 1 → q ≠ y + 21 + 1 → mem q j = 0) : Fr7 lay mem (y + 49) y N_v0 := by
  have hR : Z_R mem (y + 1) := ⟨hS1, fun q j a b c => hz q j (by omega) (by omega) (by omega) (by omega)⟩
  exact ⟨⟨hB, BO_0 hS1 hS2 hz, Nat.le_refl _, ⟨rfl, fun o ho => by cases ho⟩, N_v0_O, S1_ok.2.2.2.2.2.2.2.2.2 mem (y + 1) hR, G_v0⟩, hz _ _ (by omega) (by omega) (by omega) (by omega), hz _ _ (by omega) (by omega) (by omega) (by omega), fun j h9 h10 => N_v0_z h9 h10, by decide⟩
theorem G_fresh {v : Nat → Int} (hz : ∀ j, 9 ≤ j → j ≠ 10 → v j = 0) (h0 : 0 ≤ v 0) : G_v v := by
  unfold G_v
  rw [hz 19 (by omega) (by omega), hz 20 (by omega) (by omega), hz 21 (by omega) (by omega), hz 11 (by omega) (by omega), hz 15 (by omega) (by omega), hz 16 (by omega) (by omega), hz 13 (by omega) (by omega), hz 14 (by omega) (by omega), hz 12 (by omega) (by omega), hz 22 (by omega) (by omega), hz 23 (by omega) (by omega)]
  exact ⟨by omega, by omega, by omega, by omega, by omega, fun i _ hi => by omega⟩
section
variable {lay : ja_Y} {mem : ja_M} {n y : Nat} {v : Nat → Int}
theorem Fr7.nb (h : Fr7 lay mem n y v) : ¬ B_bg mem y := by
  obtain ⟨-, h7, h4, -⟩ := h
  rintro (q | q)
  · exact q h7
  · omega
theorem Fr7_up {j : Nat} {z : Int} (h : Fr7 lay mem n y v) (hj : j < 9) (hz : N_in j z) : Fr7 lay (ja_up mem (y + 1 + 1) j z) n y (ja_rs v j z) := by
  obtain ⟨hI, h7, h4, hv, h10⟩ := h
  have hT : S1 (ja_up mem (y + 1 + 1) j z) (y + 1) (ja_rs v j z) := by
    by_cases q : j < 6
    · have hs := S1_ok.2.2.1 mem (y + 1) v 0 True j z q hI.R hI.N hI.T
      have n1 : ¬ R_bg mem (y + 1) := by
        rintro (w | w)
        · exact w h7
        · omega
      have n2 : ¬ N_bg v := by
        have := hv 25 (by omega) (by omega)
        rintro (w | w) <;> omega
      rw [if_pos ⟨trivial, n1⟩, if_pos ⟨trivial, n2⟩] at hs
      exact hs
    · have hs := S1_ok.2.2.2.2.1 mem (y + 1) v True j z (by omega) hj hI.T
      rw [if_pos trivial, if_pos trivial] at hs
      exact hs
  have h25 := hv 25 (by omega) (by omega)
  have hv2 : ∀ i, 9 ≤ i → i ≠ 10 → ja_rs v j z i = 0 := fun i h9 hi => by rw [ja_rs_n (by omega)]; exact hv i h9 hi
  have hN := N_O_up hI.N hz hj (Or.inr (by omega))
  exact ⟨I7_recv hI (Int.le_refl _) (RO_up hI.R hz hj (Or.inr (by omega))) (fun q hq => ja_up_row (by omega)) hN hT (G_fresh hv2 (by have := hN.1.S.1; omega)), by rw [ja_up_a (by omega)]; exact h7, by rw [ja_up_a (by omega)]; exact h4, hv2, by rw [ja_rs_n (by omega)]; exact h10⟩
end
