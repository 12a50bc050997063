-- WHAT IS PREDICTED COMES SO; WHAT IS KEPT COMES BACK
theorem N_ad_s (v : Nat → Int) (k : Nat) : N_ad v (k + 1) = N_ti (N_ad v k) := rfl
theorem N_at_1 (v : Nat → Int) : N_at v 1 = N_to v := by
  simp only [N_at, N_ad]
  omega
/-- what the ticks to a gap mean -/
def PG7 (v : Nat → Int) (g : Int) : Prop := (g = -1004 ∧ ∀ k : Nat, k ≤ 1000 → N_ag v k = 0) ∨ ((0 ≤ g ∧ g < 1000) ∧ (∀ k : Nat, (k : Int) ≤ g → N_ag v k = 0) ∧ (∀ k : Nat, g < (k : Int) → 0 < N_ag v k) ∧ N_to (N_ad v g.toNat) = 1 ∧ N_ti (N_ad v g.toNat) 21 = N_ad v g.toNat 21 + 1)
theorem PG7_1 {v : Nat → Int} {g : Int} (h : PG7 v g) : g = -1004 ∨ (0 ≤ g ∧ g < 1000) := by
  rcases h with ⟨a, -⟩ | ⟨a, -⟩
  · exact Or.inl a
  · exact Or.inr a
theorem PG7_2 {v : Nat → Int} {g : Int} (h : PG7 v g) {k : Nat} (hk : k ≤ 1000) : ((0 ≤ g ∧ g < (k : Int)) ∧ 0 < N_ag v k) ∨ ((g < 0 ∨ (k : Int) ≤ g) ∧ N_ag v k = 0) := by
  rcases h with ⟨a, b⟩ | ⟨a, b, c, -⟩
  · exact Or.inr ⟨Or.inl (by omega), b k hk⟩
  · by_cases q : g < (k : Int)
    · exact Or.inl ⟨⟨a.1, q⟩, c k q⟩
    · exact Or.inr ⟨Or.inr (by omega), b k (by omega)⟩
theorem PG7_3 {v : Nat → Int} {g : Int} (h : PG7 v g) (h0 : 0 ≤ g) : N_ag v g.toNat = 0 ∧ N_to (N_ad v g.toNat) = 1 ∧ N_ti (N_ad v g.toNat) 21 = N_ad v g.toNat 21 + 1 := by
  rcases h with ⟨a, -⟩ | ⟨a, b, -, c, d⟩
  · omega
  · exact ⟨b _ (by omega), c, d⟩
theorem P_gap {v : Nat → Int} {t : Int} (hN : N_O v t) (hG : G_v v) (ht : t ≤ 898000) : PG7 v (N_xg 1000 0 v) := by
  unfold PG7
  rcases N_xg_v 1000 0 v with ⟨e, h⟩ | ⟨g, g1, g2, g3, g4⟩
  · exact Or.inl ⟨e, fun k hk => N_ag_0 k (fun j hj => h j (by omega))⟩
  · right
    have e : (N_xg 1000 0 v).toNat = g := by omega
    have hO := N_ad_O hN g (by omega)
    have hGg := G_ad hN hG g (by omega)
    rw [e]
    refine ⟨by omega, fun k hk => N_ag_0 k (fun j hj => g4 j (by omega)), fun k hk => N_ag_p g3 k (by omega), ?_, ?_⟩
    · rcases N_ti_11 hO (by omega) hGg with ⟨-, a⟩ | ⟨-, a, -⟩
      · exact absurd g3 a
      · exact a
    · rw [N_ti_27 hO (by omega), if_pos g3]
/-- what the ticks to a frame mean -/
def PF7 (v : Nat → Int) (x f : Int) : Prop := f = -1004 ∨ ((0 ≤ f ∧ f < 2000) ∧ N_ad v f.toNat 11 = x ∧ N_to (N_ad v f.toNat) = 1 ∧ N_ti (N_ad v f.toNat) 11 = x + 1)
theorem PF7_1 {v : Nat → Int} {x f : Int} (h : PF7 v x f) : f = -1004 ∨ (0 ≤ f ∧ f < 2000) := by
  rcases h with a | ⟨a, -⟩
  · exact Or.inl a
  · exact Or.inr a
theorem PF7_3 {v : Nat → Int} {x f : Int} (h : PF7 v x f) (h0 : 0 ≤ f) : N_ad v f.toNat 11 = x ∧ N_to (N_ad v f.toNat) = 1 ∧ N_ti (N_ad v f.toNat) 11 = x + 1 := by
  rcases h with a | ⟨-, a⟩
  · omega
  · exact a
theorem P_fra {v : Nat → Int} {t x : Int} (hN : N_O v t) (hG : G_v v) (ht : t ≤ 896000) (hx : v 11 ≤ x) : PF7 v x (N_xf x 2000 0 v) := by
  unfold PF7
  rcases N_xf_v (x := x) 2000 0 v with e | ⟨g, g1, g2, g3, g4⟩
  · exact Or.inl e
  · right
    have e : (N_xf x 2000 0 v).toNat = g := by omega
    have hO := N_ad_O hN g (by omega)
    have hGg := G_ad hN hG g (by omega)
    have hle : N_ad v g 11 ≤ x := by
      cases g with
      | zero => exact hx
      | succ g' => exact g4 g' (by omega)
    rw [e]
    rw [N_ad_s] at g3
    rcases N_ti_11 hO (by omega) hGg with ⟨a, -⟩ | ⟨a, b, -⟩
    · omega
    · exact ⟨by omega, by omega, b, by omega⟩
section
variable {lay lay' : ja_Y} {mem M M2 M3 : ja_M} {n n' y o : Nat} {sl : Nat → Option Nat} {t t2 : Int} {v w : Nat → Int}
/-- the receiver is what it was at mem -/
def E7 (lay : ja_Y) (M : ja_M) (n y : Nat) (sl : Nat → Option Nat) (t : Int) (v : Nat → Int) (mem : ja_M) : Prop := I7 lay M n y sl t v ∧ R_eq M (y + 1) mem (y + 1) ∧ ja_RO mem (y + 1) t ∧ S1 mem (y + 1) v
theorem E7_0 (h : I7 lay mem n y sl t v) : E7 lay mem n y sl t v mem := ⟨h, R_eq.rows (fun _ _ _ => rfl), h.R, h.T⟩
theorem E7.ck (E : E7 lay M n y sl t v mem) : B_ck M y = B_ck mem y := B_ck_eq E.2.2.1 E.2.1
theorem E7_fore (E : E7 lay M n y sl t v mem) (hR : ∃ t2, ja_RO M2 (y + 21) t2) (hf : ∀ q, (q < y + 21 ∨ y + 41 ≤ q) → M2 q = M q) : E7 lay M2 n y sl t v mem := ⟨I7_fore E.1 hR hf, (R_eq.rows (fun q qa qb => hf q (by omega))).tr E.2.1, E.2.2⟩
theorem I7.cpr (h : I7 lay M n y sl t v) : ja_RO (R_cp M (y + 21) (y + 1)) (y + 21) t := R_cp_RO h.R h.O.2.1.choose_spec (by omega)
theorem E7_gap (E : E7 lay M n y sl t v mem) (ht : t ≤ 898000) : E7 lay (B_gap (y + 21) ((R_cp M (y + 21) (y + 1)) (y + 21 + 14) 2) 1000 0 (R_cp M (y + 21) (y + 1))).2 n y sl t v mem ∧ (B_gap (y + 21) ((R_cp M (y + 21) (y + 1)) (y + 21 + 14) 2) 1000 0 (R_cp M (y + 21) (y + 1))).1 = N_xg 1000 0 v := ⟨E7_fore E (B_gap_RO _ _ _ _ E.1.cpr (by omega)) (fun q hq => by rw [B_gap_f (by omega), R_cp_o (by omega)]), a_gap 1000 0 _ _ _ E.1.cpr E.1.N (by omega) (a_cp E.1.R E.1.T) rfl⟩
theorem E7_gin {x : Int} (E : E7 lay M n y sl t v mem) (ht : t ≤ 898000) (hx : 1 ≤ x ∧ x ≤ 1000) : E7 lay (if 1 ≤ x ∧ x ≤ 1000 then B_adv (R_cp M (y + 21) (y + 1)) (y + 21) x.toNat else M) n y sl t v mem ∧ (if 1 ≤ x ∧ x ≤ 1000 then (B_adv (R_cp M (y + 21) (y + 1)) (y + 21) x.toNat) (y + 21 + 14) 2 - (R_cp M (y + 21) (y + 1)) (y + 21 + 14) 2 else -1001) = N_ag v x.toNat := by
  rw [if_pos hx, if_pos hx]
  exact ⟨E7_fore E ⟨_, B_adv_RO E.1.cpr x.toNat (by omega)⟩ (fun q hq => (B_adv_f (by omega) _).trans (R_cp_o (by omega))), a_ag E.1.cpr E.1.N (a_cp E.1.R E.1.T) _ (by omega)⟩
theorem E7_fra {x : Int} (E : E7 lay M n y sl t v mem) (ht : t ≤ 898000) (hx : B_isF x) (hge : M (y + 1 + 9) 6 ≤ x) : E7 lay (if B_isF x then (if x < M (y + 1 + 9) 6 then M else (B_fra (y + 21) x 2000 0 (R_cp M (y + 21) (y + 1))).2) else M) n y sl t v mem ∧ (if B_isF x then (if x < M (y + 1 + 9) 6 then -1003 else (B_fra (y + 21) x 2000 0 (R_cp M (y + 21) (y + 1))).1) else -1001) = N_xf x 2000 0 v := by
  rw [if_pos hx, if_pos hx, if_neg (by omega), if_neg (by omega)]
  exact ⟨E7_fore E (B_fra_RO _ _ _ _ E.1.cpr (by omega)) (fun q hq => (B_fra_f (by omega) _ _ _).trans (R_cp_o (by omega))), a_fra 2000 0 _ _ _ E.1.cpr E.1.N (by omega) (a_cp E.1.R E.1.T)⟩
/-- and the kept copy, too -/
def F7 (lay : ja_Y) (M : ja_M) (n y : Nat) (sl : Nat → Option Nat) (t : Int) (v : Nat → Int) (mem : ja_M) (o : Nat) : Prop := E7 lay M n y sl t v mem ∧ sl 1 = some o ∧ R_eq M o mem (y + 1)
theorem F7.ge (F : F7 lay M n y sl t v mem o) : y + 49 ≤ o := (F.1.1.2.2.2.1.2 o F.2.1).1
theorem F7.RO (F : F7 lay M n y sl t v mem o) : ja_RO M o t := F.1.1.O.2.2.2.2 1 o (by omega) F.2.1
theorem E7_keep {r : Option Value} (E : E7 lay M n y sl t v mem) (hp : B_kp lay M n y sl 1 r lay' M2 n') : some (.int (ja_I (M (y + 1) 6))) = r ∧ M2 (y + 1) = M (y + 1) ∧ ∃ sl' o, F7 lay' M2 n' y sl' t v mem o := by
  have hs := E.1.so
  obtain ⟨⟨hB, hO, hn, ⟨hs0, hs1⟩, hN, hT, hG⟩, hE, hR0, hT0⟩ := E
  rcases hp with ⟨hkk, -⟩ | ⟨o, m0, hkk, q1, q3, hm0, hcase⟩
  · exact absurd ⟨by decide, by decide⟩ hkk
  · have hz := hO.1.2.2.2.1.1
    rcases hcase with ⟨hso1, q2, q4, q5⟩ | ⟨hsn, ho, hn1, hLR, hlq, hl41, hSo, hZo⟩
    · subst q2; subst q4; subst q5
      have hso1 : sl 1 = some o := hso1
      obtain ⟨o1, o2⟩ := hs1 o hso1
      have hf : ∀ q, (q < o ∨ o + 20 ≤ q) → M2 q = m0 q := fun q hq => by rw [q3, R_cp_o hq]
      have hRo : ja_RO M2 o t := by
        rw [q3]
        exact R_cp_RO hO.1 (hO.2.2.2.2 1 o (by omega) hso1) (by omega)
      have hEo : R_eq M2 o m0 (y + 1) := by
        rw [q3]
        exact R_cp_eq (by omega) hz
      have hO2 : ja_BO M2 y sl t := by
        obtain ⟨a1, ⟨t1, a2⟩, a3, a4, a5⟩ := hO
        refine ⟨ja_RO_all (fun q qa qb => hf q (by omega)) a1, ⟨t1, ja_RO_all (fun q qa qb => hf q (by omega)) a2⟩, ja_HO_c (hf _ (by omega)) (hf _ (by omega)) a3, ja_AO_c (fun q qa qb => hf q (by omega)) a4, fun i o' hi ho' => ?_⟩
        rcases (show i = 0 ∨ i = 1 by omega) with rfl | rfl
        · rw [hs0] at ho'
          cases ho'
        · rw [hso1] at ho'
          cases ho'
          exact hRo
      refine ⟨q1, hf _ (by omega), sl, o, ⟨⟨hB, hO2, hn, ⟨hs0, hs1⟩, hN, S1_ok.1 m0 M2 _ v v (fun q qa qb => hf q (by omega)) (fun _ _ => rfl) hT, hG⟩, (R_eq.rows (fun q qa qb => hf q (by omega))).tr hE, hR0, hT0⟩, hso1, hEo.tr hE⟩
    · subst hn1; subst ho
      have hf : ∀ q, q < o → M2 q = M q := fun q hq => by rw [q3, R_cp_o (by omega), hm0 q (by omega)]
      have hR1 : ja_RO m0 (y + 1) t := ja_RO_all (fun q qa qb => hm0 q (by omega)) hO.1
      have hRo : ja_RO M2 o t := by
        rw [q3]
        exact R_cp_RO hR1 (RO_0 hSo (fun q j a1 a2 a3 => hZo q j a1 a2 a3)) (by omega)
      have hEo : R_eq M2 o m0 (y + 1) := by
        rw [q3]
        exact R_cp_eq (by omega) hR1.2.2.2.1.1
      have hsk : va_up sl (1 : Int).toNat (some o) 1 = some o := by
        unfold va_up
        exact if_pos (by decide)
      have hs00 : va_up sl (1 : Int).toNat (some o) 0 = none := by
        unfold va_up
        rw [if_neg (by decide)]
        exact hs0
      have hlB : ja_LB lay' y (va_up sl (1 : Int).toNat (some o)) := ja_LB_c (fun q qa qb qc => hlq q (by omega) qc) hl41 (fun s o' s2 hs' => by
        rcases (show s = 0 ∨ s = 1 by omega) with rfl | rfl
        · rw [hs00] at hs'
          cases hs'
        · rw [hsk] at hs'
          cases hs'
          exact ⟨hn, hLR⟩) hB
      have hO2 : ja_BO M2 y (va_up sl (1 : Int).toNat (some o)) t := by
        obtain ⟨a1, ⟨t1, a2⟩, a3, a4, a5⟩ := hO
        refine ⟨ja_RO_all (fun q qa qb => hf q (by omega)) a1, ⟨t1, ja_RO_all (fun q qa qb => hf q (by omega)) a2⟩, ja_HO_c (hf _ (by omega)) (hf _ (by omega)) a3, ja_AO_c (fun q qa qb => hf q (by omega)) a4, fun i o' hi ho' => ?_⟩
        rcases (show i = 0 ∨ i = 1 by omega) with rfl | rfl
        · rw [hs00] at ho'
          cases ho'
        · rw [hsk] at ho'
          cases ho'
          exact hRo
      have hR2 : R_eq m0 (y + 1) M (y + 1) := R_eq.rows (fun q qa qb => hm0 q (by omega))
      refine ⟨q1, hf _ (by omega), va_up sl (1 : Int).toNat (some o), o, ⟨⟨hlB, hO2, by omega, ⟨hs00, fun o' ho' => ?_⟩, hN, S1_ok.1 M M2 _ v v (fun q qa qb => hf q (by omega)) (fun _ _ => rfl) hT, hG⟩, (R_eq.rows (fun q qa qb => hf q (by omega))).tr hE, hR0, hT0⟩, hsk, (hEo.tr hR2).tr hE⟩
      rw [hsk] at ho'
      cases ho'
      omega
theorem F7_rest (F : F7 lay M n y sl t v mem o) (h2 : I7 lay M2 n y sl t2 w) (hf : ∀ q, y + 21 ≤ q → M2 q = M q) : F7 lay (R_cp M2 (y + 1) o) n y sl t v mem o := by
  have hge := F.ge
  have hRo : ja_RO M2 o t := ja_RO_all (fun q qa qb => hf q (by omega)) F.RO
  have hf3 : ∀ q, y + 21 ≤ q → R_cp M2 (y + 1) o q = M q := fun q hq => by rw [R_cp_o (by omega), hf q hq]
  obtain ⟨⟨h, hE, hR0, hT0⟩, hso, hEo⟩ := F
  have e1 : R_eq (R_cp M2 (y + 1) o) (y + 1) M2 o := R_cp_eq (by omega) hRo.2.2.2.1.1
  have e2 : R_eq M2 o M o := R_eq.rows (fun q qa qb => hf q (by omega))
  have e3 : R_eq (R_cp M2 (y + 1) o) (y + 1) mem (y + 1) := (e1.tr e2).tr hEo
  have e4 : R_eq (R_cp M2 (y + 1) o) o M o := R_eq.rows (fun q qa qb => hf3 q (by omega))
  have hT3 : S1 (R_cp M2 (y + 1) o) (y + 1) v := S1_ok.2.1 mem _ (y + 1) (y + 1) v t hR0 e3 hT0
  exact ⟨⟨I7_recv h (Int.le_refl _) (R_cp_RO hRo h2.R (by omega)) hf3 h.N hT3 h.G, e3, hR0, hT0⟩, hso, e4.tr hEo⟩
/-- k ticks on -/
theorem I7_tck (h : I7 lay M n y sl t v) (k : Nat) (hk : t + k ≤ 900001) : I7 lay (B_adv M (y + 1) k) n y sl (t + k) (N_ad v k) ∧ (∀ q, y + 21 ≤ q → B_adv M (y + 1) k q = M q) ∧ (B_adv M (y + 1) k) (y + 1 + 9) 4 - M (y + 1 + 9) 4 = N_at v k ∧ (0 ≤ N_at v k ∧ N_at v k ≤ k) ∧ (B_adv M (y + 1) k) (y + 1 + 14) 2 = v 21 + N_ag v k ∧ (B_adv M (y + 1) k) (y + 1 + 9) 6 = N_ad v k 11 := by
  have h2 := I7_adv h k hk
  have e := N_ag_v h.N k hk
  exact ⟨h2, fun q hq => B_adv_f (by omega) _, a_adv h.R h.N h.T k hk, N_at_in k, by rw [h2.P.2.2.2.2.1]; omega, h2.P.1.2.2.2⟩
end
