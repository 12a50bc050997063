-- COUNTS THAT BELONG TOGETHER, over the memory
section
variable {lay : ja_Y} {mem M : ja_M} {n y : Nat} {sl : Nat → Option Nat} {t : Int} {v v' : Nat → Int}
theorem I7_s (h : I7 lay mem n y sl t v) : (mem (y + 1 + 14) 0 + mem (y + 1 + 14) 1 + mem (y + 1 + 14) 2 = mem (y + 1 + 9) 6 ∧ 0 ≤ mem (y + 1 + 14) 0 ∧ 0 ≤ mem (y + 1 + 14) 1 ∧ 0 ≤ mem (y + 1 + 14) 2 ∧ 0 ≤ mem (y + 1 + 9) 6 ∧ mem (y + 1 + 9) 6 ≤ 1000) ∧ (0 ≤ mem (y + 1 + 9) 1 - mem (y + 1 + 9) 2 ∧ mem (y + 1 + 9) 1 - mem (y + 1 + 9) 2 ≤ mem (y + 1 + 1) 0 + mem (y + 1 + 1) 0 / 2) ∧ (0 ≤ mem (y + 1 + 14) 3 ∧ 0 ≤ mem (y + 1 + 14) 4 ∧ mem (y + 1 + 14) 3 + mem (y + 1 + 14) 4 ≤ mem (y + 1 + 14) 0 + mem (y + 1 + 14) 1) ∧ (0 ≤ mem (y + 1 + 14) 8 ∧ mem (y + 1 + 14) 8 ≤ mem (y + 1 + 14) 2 ∧ (mem (y + 1 + 14) 2 = 0 ∨ 0 < mem (y + 1 + 14) 8)) ∧ (0 ≤ mem (y + 1 + 6) 2 ∧ mem (y + 1 + 6) 2 ≤ 16) ∧ (4 ≤ mem (y + 1 + 1) 0 ∧ mem (y + 1 + 1) 0 ≤ 16) ∧ (0 ≤ mem (y + 1 + 9) 4 ∧ mem (y + 1 + 9) 4 ≤ 1000000) := by
  obtain ⟨⟨p1, p2, p4, p6⟩, -, c0, c1, c2, c3, c4, c5, c6, c7, c8⟩ := h.P
  obtain ⟨w1, w2, -⟩ := h.W
  obtain ⟨g1, g2, g3, g4, g5, -⟩ := h.G
  have s0 := h.set 0 (by omega)
  obtain ⟨hR, hq, -⟩ := h.N
  have hC := hR.C
  have hS := hR.S.1
  have hP4 := h.R.2.2.1.2.1
  rw [c0, c1, c2, c3, c4, c8, p1, p2, p6, w1, s0]
  exact ⟨by omega, by omega, by omega, by omega, by omega, by omega, hP4⟩
theorem N_ls_f {v : Nat → Int} (h0 : 0 ≤ v 21) (h1 : v 21 ≤ v 11) (h2 : v 11 ≤ 1000) : (0 < N_ls v 1 ∧ N_ls v 1 ≤ 1000) ∧ (0 ≤ N_ls v 0 ∧ N_ls v 0 ≤ 1000) ∧ N_ls v 0 * (if v 11 = 0 then 1 else v 11) = v 21 * N_ls v 1 := by
  by_cases hz : v 21 = 0
  · have z1 : N_ls v 1 = 1 := by
      unfold N_ls
      rw [if_pos hz, if_neg (by decide)]
    have z0 : N_ls v 0 = 0 := by
      unfold N_ls
      rw [if_pos hz, if_pos rfl]
    rw [z1, z0, hz]
    exact ⟨by omega, by omega, by rw [Int.zero_mul, Int.zero_mul]⟩
  · have z1 : N_ls v 1 = v 11 / (Nat.gcd (v 11).toNat (v 21).toNat : Nat) := by
      unfold N_ls
      rw [if_neg hz, if_neg (by decide)]
    have z0 : N_ls v 0 = v 21 / (Nat.gcd (v 11).toNat (v 21).toNat : Nat) := by
      unfold N_ls
      rw [if_neg hz, if_pos rfl]
    rw [z1, z0, if_neg (by omega)]
    clear z1 z0
    obtain ⟨a, ha⟩ := Nat.gcd_dvd_left (v 11).toNat (v 21).toNat
    obtain ⟨c, hc⟩ := Nat.gcd_dvd_right (v 11).toNat (v 21).toNat
    have hg : 0 < Nat.gcd (v 11).toNat (v 21).toNat := Nat.gcd_pos_of_pos_right _ (by omega)
    generalize Nat.gcd (v 11).toNat (v 21).toNat = g at *
    have ea : v 11 = (g : Int) * (a : Int) := by rw [← Int.natCast_mul, ← ha]; omega
    have ec : v 21 = (g : Int) * (c : Int) := by rw [← Int.natCast_mul, ← hc]; omega
    have d1 : v 11 / (g : Int) = (a : Int) := by rw [ea]; exact Int.mul_ediv_cancel_left _ (by omega)
    have d2 : v 21 / (g : Int) = (c : Int) := by rw [ec]; exact Int.mul_ediv_cancel_left _ (by omega)
    have la : a ≤ g * a := Nat.le_mul_of_pos_left a hg
    have lc : c ≤ g * c := Nat.le_mul_of_pos_left c hg
    have pa : 0 < a := by
      rcases Nat.eq_zero_or_pos a with q | q
      · rw [q, Nat.mul_zero] at ha
        omega
      · exact q
    rw [d1, d2]
    refine ⟨⟨by omega, by omega⟩, ⟨by omega, by omega⟩, ?_⟩
    rw [ea, ec, Int.mul_left_comm, Int.mul_assoc]
theorem I7_los (h : I7 lay mem n y sl t v) : (0 < B_los mem y 1 ∧ B_los mem y 1 ≤ 1000) ∧ (0 ≤ B_los mem y 0 ∧ B_los mem y 0 ≤ 1000) ∧ B_los mem y 0 * (if mem (y + 1 + 9) 6 = 0 then 1 else mem (y + 1 + 9) 6) = mem (y + 1 + 14) 2 * B_los mem y 1 := by
  rw [a_ls h.N ⟨by decide, by decide⟩ h.P, a_ls h.N ⟨by decide, by decide⟩ h.P, h.P.1.2.2.2, h.P.2.2.2.2.1]
  have hC := h.N.1.C
  have hq := h.N.2.1
  exact N_ls_f (by omega) (by omega) (by omega)
theorem I7_lev (h : I7 lay mem n y sl t v) : (0 ≤ R_lv mem (y + 1) (mem (y + 1 + 9) 6) ∧ R_lv mem (y + 1) (mem (y + 1 + 9) 6) ≤ 16000) ∧ R_lv mem (y + 1) (mem (y + 1 + 9) 6) % mem (y + 1 + 1) 0 = 0 := ⟨R_lv_in h.R.1 h.R.2.2.1.2.2.1, by unfold R_lv; exact Int.mul_emod_right _ _⟩
/-- what output answers -/
def e_out (mem : ja_M) (y : Nat) (k : Int) : Int := if 1 ≤ k ∧ k ≤ 256 then (if mem (y + 1 + 9) 4 < k then -1004 else mem (y + 1 + 9 + 2) ((mem (y + 1 + 9) 4 - k) % 256).toNat) else -1001
theorem I7_out (h : I7 lay mem n y sl t v) {k : Int} (hk : 1 ≤ k ∧ k ≤ 256) : (mem (y + 1 + 9) 4 < k ∧ e_out mem y k = -1004) ∨ (k ≤ mem (y + 1 + 9) 4 ∧ -100 ≤ e_out mem y k ∧ e_out mem y k ≤ 100) := by
  unfold e_out
  rw [if_pos hk]
  by_cases q : mem (y + 1 + 9) 4 < k
  · exact Or.inl ⟨q, if_pos q⟩
  · rw [if_neg q]
    exact Or.inr ⟨by omega, h.R.2.2.1.2.2.2.2.1 _⟩
/-- what kind answers -/
def e_knd (mem : ja_M) (y : Nat) (k : Int) : Int := if 1 ≤ k ∧ k ≤ 32 then (if mem (y + 1 + 9) 6 < k then -1004 else mem (y + 1 + 9 + 3) ((mem (y + 1 + 9) 6 - k) % 32).toNat) else -1001
theorem I7_knd (h : I7 lay mem n y sl t v) {k : Int} (hk : 1 ≤ k ∧ k ≤ 32) : (mem (y + 1 + 9) 6 < k ∧ e_knd mem y k = -1004) ∨ (k ≤ mem (y + 1 + 9) 6 ∧ 1 ≤ e_knd mem y k ∧ e_knd mem y k ≤ 3) := by
  unfold e_knd
  rw [if_pos hk]
  by_cases q : mem (y + 1 + 9) 6 < k
  · exact Or.inl ⟨q, if_pos q⟩
  · rw [if_neg q]
    have e6 := h.P.1.2.2.2
    have hp := h.P.2.1 (k - 1).toNat (by omega) (by omega)
    have hg := h.G.2.2.2.2.2 (k - 1).toNat (by omega) (by omega)
    rw [show v 11 - 1 - ((k - 1).toNat : Int) = mem (y + 1 + 9) 6 - k by omega] at hp
    rw [show y + 1 + 9 + 3 = y + 1 + 12 from rfl, hp]
    exact Or.inr ⟨by omega, hg⟩
/-- what transit answers -/
def e_tra (mem : ja_M) (y : Nat) (k : Int) : Int := if 0 ≤ k ∧ k < mem (y + 1 + 6) 2 then (if -999 < mem (y + 1 + 6 + 2) k.toNat then mem (y + 1 + 6 + 2) k.toNat else -999) else -1001
theorem e_tra_in (h : I7 lay mem n y sl t v) (k : Int) : -1001 ≤ e_tra mem y k ∧ e_tra mem y k ≤ 1000000 := by
  have := h.R.2.1.2.2.2 k.toNat
  unfold ja_sm at this
  unfold e_tra
  split
  · split <;> omega
  · omega
theorem I7_tra (h : I7 lay mem n y sl t v) {k : Int} (hk : 1 ≤ k ∧ k < mem (y + 1 + 6) 2) : e_tra mem y (k - 1) ≤ e_tra mem y k := by
  obtain ⟨w1, w2, -, -, -, w6⟩ := h.W
  have a := w6 (k - 1).toNat (by omega)
  have b := w6 k.toNat (by omega)
  have o : T_od (N_so v (v 24).toNat) (v 24).toNat := T_srt_od _ _ _
  have hle := o (k - 1).toNat k.toNat (by omega) (by omega)
  unfold e_tra
  rw [if_pos (show 0 ≤ k - 1 ∧ k - 1 < mem (y + 1 + 6) 2 by omega), if_pos (show 0 ≤ k ∧ k < mem (y + 1 + 6) 2 by omega), show y + 1 + 6 + 2 = y + 1 + 8 from rfl, a, b]
  split <;> split <;> omega
end
