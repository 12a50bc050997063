-- sorting; the target; the level
theorem T_ins_c {v : Int} : ∀ (h : Nat) (f g : Nat → Int), (∀ j, j < h → f j = g j) → ∀ j, j ≤ h → T_ins f v h j = T_ins g v h j
  | 0, f, g, _, j, hj => by
    simp only [T_ins, ja_rs]
    rw [if_pos (by omega), if_pos (by omega)]
  | h + 1, f, g, hfg, j, hj => by
    simp only [T_ins]
    rw [hfg h (by omega)]
    split
    · by_cases hjh : j = h + 1
      · subst hjh
        have k : ∀ (e : Nat) (u : Nat → Int), e < h + 1 → T_ins u v e (h + 1) = u (h + 1) := by
          intro e
          induction e with
          | zero =>
            intro u _
            simp only [T_ins, ja_rs]
            rw [if_neg (by omega)]
          | succ e ih =>
            intro u he
            simp only [T_ins]
            split
            · rw [ih _ (by omega), ja_rs_n (by omega)]
            · rw [ja_rs_n (by omega)]
        rw [k h _ (by omega), k h _ (by omega), ja_rs_s, ja_rs_s]
      · exact T_ins_c h _ _ (fun q hq => by rw [ja_rs_n (by omega), ja_rs_n (by omega)]; exact hfg q (by omega)) j (by omega)
    · by_cases hjh : j = h + 1
      · subst hjh
        rw [ja_rs_s, ja_rs_s]
      · rw [ja_rs_n hjh, ja_rs_n hjh]
        exact hfg j (by omega)
theorem T_srt_c {f g g' : Nat → Int} : ∀ (k j : Nat), j < k → T_srt f g k j = T_srt f g' k j
  | 0, j, hj => by omega
  | k + 1, j, hj => by
    simp only [T_srt]
    exact T_ins_c k _ _ (fun q hq => T_srt_c k q hq) j (by omega)
/-- the transits in ascending order -/
def N_so (v : Nat → Int) (k : Nat) : Nat → Int := T_srt (fun i => v (2372 + (i : Int)).toNat) (fun _ => 0) k
theorem N_so_in {v : Nat → Int} (hR : N_R v) : ∀ (k j : Nat), k ≤ 16 → ja_sm (N_so v k j)
  | 0, j, _ => by
    simp only [N_so, T_srt]
    exact ⟨by omega, by omega⟩
  | k + 1, j, hk => by
    have hw := hR.W (j := (2372 + (k : Int)).toNat) (by omega) (by omega)
    exact T_ins_in (P := ja_sm) hw k _ (fun q => N_so_in hR k q (by omega)) j
def N_tg (v : Nat → Int) : Int := if v 24 = 0 then v 7 else N_so v (v 24).toNat ((v 6 * v 24 + 99) / 100 - 1).toNat - N_so v (v 24).toNat 0 + v 7
theorem N_tg_in {v : Nat → Int} (hR : N_R v) : -2000000 ≤ N_tg v ∧ N_tg v ≤ 2000100 := by
  have hS := hR.S
  have hC := hR.C
  have h1 := N_so_in hR (v 24).toNat ((v 6 * v 24 + 99) / 100 - 1).toNat (by omega)
  have h2 := N_so_in hR (v 24).toNat 0 (by omega)
  obtain ⟨a1, a2⟩ := h1
  obtain ⟨b1, b2⟩ := h2
  unfold N_tg
  split <;> omega
def N_fo (v : Nat → Int) : Int → Nat → Int
  | x, 0 => x
  | x, k + 1 => if N_kn v x then N_fo v (x + 1) k else x
theorem N_fo_in {v : Nat → Int} : ∀ (k : Nat) (x : Int), x ≤ N_fo v x k ∧ N_fo v x k ≤ x + k
  | 0, x => by simp [N_fo]
  | k + 1, x => by
    have h := @N_fo_in v k (x + 1)
    simp only [N_fo]
    split <;> omega
def N_lv (v : Nat → Int) (x : Int) : Int := v 0 * (if x < N_fo v x (1000 - x).toNat then N_fo v x (1000 - x).toNat - x else 0)
theorem N_lv_in {v : Nat → Int} {x : Int} (hS : N_S v) (hx : 0 ≤ x ∧ x ≤ 1000) : 0 ≤ N_lv v x ∧ N_lv v x ≤ 16000 := by
  have h := @N_fo_in v (1000 - x).toNat x
  have h1 : 0 ≤ (if x < N_fo v x (1000 - x).toNat then N_fo v x (1000 - x).toNat - x else 0) ∧ (if x < N_fo v x (1000 - x).toNat then N_fo v x (1000 - x).toNat - x else 0) ≤ 1000 := by split <;> omega
  have := ja_mulb (by have := hS.1; omega : 0 ≤ v 0) hS.1.2 h1.1 h1.2
  unfold N_lv
  omega
