-- THE LAW'S OWN WORDS
theorem e_t1 {a b c : Int} : (if (1 : Int) ≤ 1 ∧ (1 : Int) ≤ 3 then (if (1 : Int) = 3 then c else if (1 : Int) = 1 then a else b) else -1001) = a := by rw [if_pos (by decide), if_neg (by decide), if_pos rfl]
theorem e_t2 {a b c : Int} : (if (1 : Int) ≤ 2 ∧ (2 : Int) ≤ 3 then (if (2 : Int) = 3 then c else if (2 : Int) = 1 then a else b) else -1001) = b := by rw [if_pos (by decide), if_neg (by decide), if_neg (by decide)]
theorem e_t3 {a b c : Int} : (if (1 : Int) ≤ 3 ∧ (3 : Int) ≤ 3 then (if (3 : Int) = 3 then c else if (3 : Int) = 1 then a else b) else -1001) = c := by rw [if_pos (by decide), if_pos rfl]
theorem d_60 {P : Int} (h : 4 ≤ P ∧ P ≤ 36) : (1 ≤ 60 / P ∧ 60 / P ≤ 15) ∧ 60 / P ≤ 999 / P := by
  have h1 : 1 ≤ 60 / P := Int.le_ediv_of_mul_le (by omega) (by omega)
  have h2 : 60 / P * P ≤ 60 := Int.ediv_mul_le 60 (by omega)
  have h3 : 60 / P ≤ 999 / P := Int.ediv_le_ediv (by omega) (by omega)
  have h4 : 60 / P * 4 ≤ 60 / P * P := Int.mul_le_mul_of_nonneg_left h.1 (by omega)
  exact ⟨⟨h1, by omega⟩, h3⟩
section
variable {lay : ja_Y} {mem M : ja_M} {n y : Nat} {sl : Nat → Option Nat} {t t' : Int} {v v' : Nat → Int}
theorem I7.mono (h : I7 lay mem n y sl t v) (ht : t ≤ t') : I7 lay mem n y sl t' v := by
  obtain ⟨hB, hO, hn, hsl, hN, hT, hG⟩ := h
  exact ⟨hB, BO_cg ht hO (fun _ _ _ => rfl) (fun _ _ _ _ _ _ _ => rfl), hn, hsl, hN.mono ht, hT, hG⟩
theorem X7_K {cs cs' : List Int} {K K' : Nat} (e : cs' = cs) (h : X7 lay M n y sl t v cs' K') (hK : K' ≤ K) : X7 lay M n y sl t v cs K := by
  subst e
  exact ⟨h.1, h.2.1, Nat.le_trans h.2.2.1 hK, h.2.2.2⟩
theorem X7.len {cs : List Int} {K : Nat} (h : X7 lay M n y sl t v cs K) (hK : K ≤ 100) : M (y + 42) 1 < 120 ∧ 0 ≤ M (y + 42) 1 := by
  obtain ⟨-, h2, h3, -⟩ := h
  omega
/-- what a step of the law leaves -/
def P7 (lay : ja_Y) (n y : Nat) (sl : Nat → Option Nat) (t : Int) (v : Nat → Int) : ja_P := fun r lay' mem' n' => some (.int (ja_I 1)) = r ∧ lay = lay' ∧ n = n' ∧ ∃ v', I7 lay mem' n y sl t v' ∧ (∀ j, j < 9 → v' j = v j) ∧ v 18 ≤ v' 18 ∧ v' 18 ≤ v 18 + 1
theorem I7_18 (h : I7 lay mem n y sl t v) : mem (y + 1 + 14) 6 = v 18 := h.P.2.2.2.2.2.2.2.2.1
theorem N_av_9 {x : Int} (hN : N_O v t) (ht : t ≤ 900000) (hx : 0 ≤ x ∧ x ≤ 999) : ∀ j, j < 9 → N_av v x j = v j := fun j hj => N_av_kg hN ht hx j (by omega)
theorem N_qv_9 {r k i : Int} (hN : N_O v t) (ht : t ≤ 900000) (hP : N_hP v r k i) : ∀ j, j < 9 → N_qv v r k i j = v j := fun j hj => N_qv_kg hN ht hP.1 (N_hP_6 hN.1.S hP) j (by omega)
theorem P7_arr {x : Int} (h : I7 lay mem n y sl t v) (ht : t ≤ 898000) (hx : 0 ≤ x ∧ x ≤ 999) : ∃ v', I7 lay (R_af mem (y + 1) x) n y sl t v' ∧ (∀ j, j < 9 → v' j = v j) ∧ v 18 ≤ v' 18 ∧ v' 18 ≤ v 18 + 1 := by
  have h' := I7_af h ht hx
  have hA := I7_arr h ht hx
  rw [I7_18 h, I7_18 h'] at hA
  refine ⟨_, h', N_av_9 h.N (by omega) hx, ?_⟩
  rcases hA with ⟨-, -, a, -⟩ | ⟨-, -, a, -⟩ <;> omega
theorem P7_pkt {r k i : Int} (h : I7 lay mem n y sl t v) (ht : t ≤ 898000) (hr : 0 ≤ r ∧ r ≤ 1) (hP : N_hP v r k i) : ∃ v', I7 lay (R_ap mem (y + 1) r k i) n y sl t v' ∧ (∀ j, j < 9 → v' j = v j) ∧ v 18 ≤ v' 18 ∧ v' 18 ≤ v 18 + 1 := by
  have h' := I7_ap h ht hr hP
  have hA := I7_pkt h ht hr hP
  rw [I7_18 h, I7_18 h'] at hA
  refine ⟨_, h', N_qv_9 h.N (by omega) hP, ?_⟩
  rcases hA with ⟨-, a⟩ | ⟨-, a, -⟩ <;> omega
end
