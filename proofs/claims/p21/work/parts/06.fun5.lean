-- Receiver at b: settings b + 1, frames b + 2, transits b + 6, player b + 9, counters b + 14, schedule b + 15
def R_so (mem : ja_M) (b : Nat) : ja_M := if mem b 7 = 0 then ja_up (ja_up mem b 7 1) b 8 (mem b 6 + mem (b + 1) 5) else mem
def R_tg (mem : ja_M) (b : Nat) : Int := T_spr mem (b + 6) (mem (b + 1) 6) + mem (b + 1) 7
def R_lv (mem : ja_M) (b : Nat) (x : Int) : Int := mem (b + 1) 0 * (F_fr mem (b + 1) (b + 2) x (1000 - x).toNat - x)
def R_ad (mem : ja_M) (b : Nat) (x : Int) : ja_M := T_add (R_so mem b) (b + 6) ((R_so mem b) b 6 - x * (R_so mem b) (b + 1) 0)
def R_lt (mem : ja_M) (b : Nat) (x : Int) : ja_M := if x < mem (b + 9) 6 then ja_up mem (b + 14) 5 (mem (b + 14) 5 + 1) else mem
def R_kn (mem : ja_M) (b : Nat) (x : Int) : ja_M := F_ad (R_lt (R_ad mem b x) b x) (b + 1) (b + 2) x
def R_rs (mem : ja_M) (b : Nat) (k : Int) : ja_M := ja_up mem (b + 2 + 1) k.toNat (F_re mem (b + 1) (b + 2) k).toInt
def R_rn (mem : ja_M) (b : Nat) (k : Int) : Int := J_bc (F_re mem (b + 1) (b + 2) k &&& (F_kn mem (b + 1) (b + 2) k ^^^ (-1)))
def R_dp (mem : ja_M) (b : Nat) : ja_M := ja_up mem (b + 14) 6 (mem (b + 14) 6 + 1)
def R_af (mem : ja_M) (b : Nat) (x : Int) : ja_M := if F_st mem (b + 1) (b + 2) x = 0 then R_rs (R_kn mem b x) b (x / ja_cells (R_kn mem b x) (b + 1)) else R_dp mem b
def R_an (mem : ja_M) (b : Nat) (x : Int) : Int := if F_st mem (b + 1) (b + 2) x = 0 then 1 + R_rn (R_kn mem b x) b (x / ja_cells (R_kn mem b x) (b + 1)) else 0
def R_pk (mem : ja_M) (b : Nat) (r k i : Int) : ja_M := F_ap (R_so mem b) (b + 2) r k i
def R_ap (mem : ja_M) (b : Nat) (r k i : Int) : ja_M := if F_and (mem (b + 2 + 3) k.toNat) (F_pb r i) = 0 then R_rs (R_pk mem b r k i) b k else R_dp mem b
def R_pn (mem : ja_M) (b : Nat) (r k i : Int) : Int := if F_and (mem (b + 2 + 3) k.toNat) (F_pb r i) = 0 then R_rn (R_pk mem b r k i) b k else 0
def R_du (mem : ja_M) (b : Nat) : Nat → ja_M
  | 0 => mem
  | k + 1 => if mem (b + 15 + 4) k = mem b 6 then (if mem (b + 15 + 1) k = 0 then R_af (R_du mem b k) b (mem (b + 15 + 2) k) else R_ap (R_du mem b k) b (ja_b (mem (b + 15 + 1) k = 1)) (mem (b + 15 + 2) k) (mem (b + 15 + 3) k)) else R_du mem b k
def R_due (mem : ja_M) (b : Nat) : ja_M := A_rem (R_du mem b (mem (b + 15) 4).toNat) (b + 15) (mem b 6) (mem (b + 15) 4).toNat
def R_lw (mem : ja_M) (b : Nat) (x : Int) : ja_M := ja_rw mem (b + 9 + 4) (P_ldr mem (b + 1) x (mem (b + 9 + 4)) (mem (b + 1) 0).toNat)
def R_pkn (mem : ja_M) (b : Nat) (x : Int) : ja_M :=
  if (R_lw mem b x) (b + 1) 8 ≠ 0 ∧ R_tg mem b + mem (b + 1) 0 < R_lv mem b (x + 1) then P_cpr (ja_up (R_lw mem b x) (b + 14) 4 ((R_lw mem b x) (b + 14) 4 + 1)) (b + 9) (mem (b + 1) 0)
  else if (R_lw mem b x) (b + 1) 8 ≠ 0 ∧ R_lv mem b (x + 1) + mem (b + 1) 0 < R_tg mem b then P_str (ja_up (R_lw mem b x) (b + 14) 3 ((R_lw mem b x) (b + 14) 3 + 1)) (b + 9) (mem (b + 1) 0)
  else P_pts (R_lw mem b x) (b + 9) (fun i => (R_lw mem b x) (b + 9 + 4) (0 + i)) (mem (b + 1) 0).toNat
def R_tf (mem : ja_M) (b : Nat) (x : Int) : ja_M :=
  if F_st mem (b + 1) (b + 2) x = 0 then P_con (P_beg (C_co mem (b + 14)) (b + 9) 3) (b + 9) (mem (b + 1) 0) (mem (b + 14) 7 + 1)
  else R_pkn (P_beg (C_kn mem (b + 14) (if F_st mem (b + 1) (b + 2) x = 2 then 1 else 2)) (b + 9) (if F_st mem (b + 1) (b + 2) x = 2 then 1 else 2)) b x
def R_pl (mem : ja_M) (b : Nat) : ja_M :=
  if mem b 7 ≠ 0 ∧ mem b 8 ≤ mem b 6 then P_out (if mem (b + 9) 1 - mem (b + 9) 2 = 0 ∧ mem (b + 9) 6 ≤ 999 then R_tf mem b (mem (b + 9) 6) else mem) (b + 9) else mem
def R_tk (mem : ja_M) (b : Nat) : ja_M := ja_up (R_pl (R_due mem b) b) b 6 ((R_pl (R_due mem b) b) b 6 + 1)
/-- what is scheduled exists -/
def ja_VO (mem : ja_M) (b : Nat) : Prop := ∀ j : Nat, (j : Int) < mem (b + 15) 4 → (mem (b + 15 + 1) j = 0 → mem (b + 15 + 2) j ≤ 999) ∧ (¬ mem (b + 15 + 1) j = 0 → ja_hasP mem (b + 1) (ja_b (mem (b + 15 + 1) j = 1)) (mem (b + 15 + 2) j) (mem (b + 15 + 3) j))
/-- a receiver's ranges, with a bound of its time -/
def ja_RO (mem : ja_M) (b : Nat) (t : Int) : Prop := ja_SO mem (b + 1) ∧ ja_TO mem (b + 6) ∧ ja_PO mem (b + 9) ∧ ja_AO mem (b + 15) ∧ ja_VO mem b ∧ (0 ≤ mem b 6 ∧ mem b 6 ≤ t) ∧ (0 ≤ mem b 7 ∧ mem b 7 ≤ 1) ∧ (-1 ≤ mem b 8 ∧ mem b 8 ≤ t + 200) ∧ mem (b + 9) 4 ≤ mem b 6 ∧ (0 ≤ mem (b + 14) 7 ∧ mem (b + 14) 7 ≤ mem (b + 9) 6) ∧ (0 ≤ mem (b + 14) 8 ∧ mem (b + 14) 8 ≤ mem (b + 9) 6) ∧ (0 ≤ mem (b + 14) 2 ∧ mem (b + 14) 2 ≤ mem (b + 9) 6)
-- the rows that each leaves alone
theorem R_so_o {mem : ja_M} {b q : Nat} (h : q ≠ b) : R_so mem b q = mem q := by
  unfold R_so
  split
  · rw [ja_up_row h, ja_up_row h]
  · rfl
theorem R_so_j {mem : ja_M} {b j : Nat} (h : j ≠ 7 ∧ j ≠ 8) : R_so mem b b j = mem b j := by
  unfold R_so
  split
  · rw [ja_up_j h.2, ja_up_j h.1]
  · rfl
theorem T_add_o {mem : ja_M} {a q : Nat} {v : Int} (h : q < a ∨ a + 3 ≤ q) : T_add mem a v q = mem q := by
  unfold T_add
  rw [ja_rw_n (by omega), ja_up_row (by omega), ja_up_row (by omega), ja_up_row (by omega)]
theorem T_add_TO {mem : ja_M} {a : Nat} {v : Int} (h : ja_TO mem a) (hv : ja_sm v) : ja_TO (T_add mem a v) a := by
  obtain ⟨h2, h3, b1, b2⟩ := h
  have hct : 1 ≤ T_ct mem a ∧ T_ct mem a ≤ 16 := by unfold T_ct; split <;> omega
  have hb1 : ∀ j, ja_sm (ja_rs (mem (a + 1)) (mem a 3).toNat v j) := fun j => by unfold ja_rs; split; exact hv; exact b1 j
  unfold ja_TO T_add
  refine ⟨?_, ?_, fun j => ?_, fun j => ?_⟩
  · rw [ja_rw_n (by omega), ja_up_s]
    omega
  · rw [ja_rw_n (by omega), ja_up_j (by omega), ja_up_s]
    omega
  · rw [ja_rw_n (by omega), ja_up_a (by omega), ja_up_a (by omega)]
    have := hb1 j
    unfold ja_rs at this
    unfold ja_up
    by_cases hj : j = (mem a 3).toNat
    · simp only [hj, and_self, if_true] at this ⊢
      exact this
    · simp only [hj, and_false, if_false] at this ⊢
      exact this
  · rw [ja_rw_s]
    exact T_srt_in hb1 b2 _ j
theorem F_ad_o {mem : ja_M} {s f q : Nat} {x : Int} (h : q ≠ f + 1 ∧ q ≠ f + 2) : F_ad mem s f x q = mem q := by
  unfold F_ad
  rw [ja_up_row h.1, ja_up_row h.2]
theorem R_lt_o {mem : ja_M} {b q : Nat} {x : Int} (h : q ≠ b + 14) : R_lt mem b x q = mem q := by
  unfold R_lt
  split
  · rw [ja_up_row h]
  · rfl
theorem R_lt_j {mem : ja_M} {b j : Nat} {x : Int} (h : j ≠ 5) : R_lt mem b x (b + 14) j = mem (b + 14) j := by
  unfold R_lt
  split
  · rw [ja_up_j h]
  · rfl
theorem ja_SO_r {mem mem' : ja_M} {s : Nat} (h : mem' s = mem s) (hO : ja_SO mem s) : ja_SO mem' s := ja_SO_c h hO
theorem ja_TO_c {mem mem' : ja_M} {a : Nat} (h0 : mem' a = mem a) (h1 : mem' (a + 1) = mem (a + 1)) (h2 : mem' (a + 2) = mem (a + 2)) (hO : ja_TO mem a) : ja_TO mem' a := by
  unfold ja_TO
  rw [h0, h1, h2]
  exact hO
theorem ja_PO_c {mem mem' : ja_M} {a : Nat} (h0 : mem' a = mem a) (h1 : mem' (a + 1) = mem (a + 1)) (h2 : mem' (a + 2) = mem (a + 2)) (h4 : mem' (a + 4) = mem (a + 4)) (hO : ja_PO mem a) : ja_PO mem' a := by
  unfold ja_PO
  rw [h0, h1, h2, h4]
  exact hO
theorem ja_cells_c {mem mem' : ja_M} {s : Nat} (h : mem' s = mem s) : ja_cells mem' s = ja_cells mem s := by
  unfold ja_cells
  rw [h]
theorem ja_hasP_c {mem mem' : ja_M} {s : Nat} {r k i : Int} (h : mem' s = mem s) : ja_hasP mem' s r k i = ja_hasP mem s r k i := by
  simp only [ja_hasP, ja_hasB, ja_cells, h]
theorem ja_VO_c {mem mem' : ja_M} {b : Nat} (hs : mem' (b + 1) = mem (b + 1)) (h : ∀ q, b + 15 ≤ q → q < b + 20 → mem' q = mem q) (hO : ja_VO mem b) : ja_VO mem' b := by
  intro j hj
  rw [h (b + 15) (by omega) (by omega)] at hj
  rw [h (b + 15 + 1) (by omega) (by omega), h (b + 15 + 2) (by omega) (by omega), h (b + 15 + 3) (by omega) (by omega), ja_hasP_c hs]
  exact hO j hj
/-- ranges go over to a memory that is the same but in frames, counters' other places and the start -/
theorem ja_RO_c {mem mem' : ja_M} {b : Nat} {t : Int} (h : ja_RO mem b t) (hb : ∀ j, j ≠ 7 → j ≠ 8 → mem' b j = mem b j) (h7 : 0 ≤ mem' b 7 ∧ mem' b 7 ≤ 1) (h8 : -1 ≤ mem' b 8 ∧ mem' b 8 ≤ t + 200) (hs : mem' (b + 1) = mem (b + 1)) (hT : ja_TO mem' (b + 6)) (hp : ∀ q, b + 9 ≤ q → q < b + 14 → mem' q = mem q) (hc : ∀ j, (j = 7 ∨ j = 8 ∨ j = 2) → mem' (b + 14) j = mem (b + 14) j) (ha : ∀ q, b + 15 ≤ q → q < b + 20 → mem' q = mem q) : ja_RO mem' b t := by
  obtain ⟨g1, g2, g3, g4, g5, g6, g7, g8, g9, g10, g11, g12⟩ := h
  refine ⟨ja_SO_c hs g1, hT, ja_PO_c (hp _ (by omega) (by omega)) (hp _ (by omega) (by omega)) (hp _ (by omega) (by omega)) (hp _ (by omega) (by omega)) g3, ja_AO_c (fun q q1 q2 => ha q q1 (by omega)) g4, ja_VO_c hs ha g5, ?_, h7, h8, ?_, ?_, ?_, ?_⟩
  · rw [hb 6 (by omega) (by omega)]
    exact g6
  · rw [hb 6 (by omega) (by omega), hp (b + 9) (by omega) (by omega)]
    exact g9
  · rw [hc 7 (by omega), hp (b + 9) (by omega) (by omega)]
    exact g10
  · rw [hc 8 (by omega), hp (b + 9) (by omega) (by omega)]
    exact g11
  · rw [hc 2 (by omega), hp (b + 9) (by omega) (by omega)]
    exact g12
theorem R_so_RO {mem : ja_M} {b : Nat} {t : Int} (h : ja_RO mem b t) : ja_RO (R_so mem b) b t := by
  have h0 := h
  obtain ⟨g1, g2, g3, g4, g5, g6, g7, g8, g9, g10, g11, g12⟩ := h
  have h5 := g1.2.2.2.2.2.1
  refine ja_RO_c h0 (fun j h7 h8 => R_so_j ⟨h7, h8⟩) ?_ ?_ (R_so_o (by omega)) (ja_TO_c (R_so_o (by omega)) (R_so_o (by omega)) (R_so_o (by omega)) g2) (fun q q1 q2 => R_so_o (by omega)) (fun j _ => by rw [R_so_o (by omega)]) (fun q q1 q2 => R_so_o (by omega))
  · unfold R_so
    split
    · rw [ja_up_j (by omega), ja_up_s]
      omega
    · exact g7
  · unfold R_so
    split
    · rw [ja_up_s]
      omega
    · exact g8
theorem ja_frame {mem : ja_M} {b : Nat} {t x : Int} (h : ja_RO mem b t) (hx : 0 ≤ x ∧ x ≤ 999) : 0 ≤ x * mem (b + 1) 0 ∧ x * mem (b + 1) 0 ≤ 15984 := by
  obtain ⟨h1, h2⟩ := ja_mulb hx.1 hx.2 (by have := h.1.1; omega : 0 ≤ mem (b + 1) 0) (by have := h.1.1; omega : mem (b + 1) 0 ≤ 16)
  exact ⟨h1, by omega⟩
theorem R_ad_RO {mem : ja_M} {b : Nat} {t x : Int} (h : ja_RO mem b t) (ht : t ≤ 900000) (hx : 0 ≤ x ∧ x ≤ 999) : ja_RO (R_ad mem b x) b t := by
  have h1 := R_so_RO h
  have hf := ja_frame h1 hx
  have h6 := h1.2.2.2.2.2.1
  have hv : ja_sm ((R_so mem b) b 6 - x * (R_so mem b) (b + 1) 0) := ⟨by omega, by omega⟩
  have g := h1
  obtain ⟨g1, g2, g3, g4, g5, g6, g7, g8, g9, g10, g11, g12⟩ := h1
  unfold R_ad
  exact ja_RO_c g (fun j _ _ => by rw [T_add_o (by omega)]) (by rw [T_add_o (by omega)]; exact g7) (by rw [T_add_o (by omega)]; exact g8) (T_add_o (by omega)) (T_add_TO g2 hv) (fun q q1 q2 => T_add_o (by omega)) (fun j _ => by rw [T_add_o (by omega)]) (fun q q1 q2 => T_add_o (by omega))
theorem R_same {mem mem' : ja_M} {b : Nat} {t : Int} (h : ja_RO mem b t) (hq : ∀ q, q ≠ b + 3 → q ≠ b + 4 → q ≠ b + 5 → q ≠ b + 14 → mem' q = mem q) (hc : ∀ j, (j = 7 ∨ j = 8 ∨ j = 2) → mem' (b + 14) j = mem (b + 14) j) : ja_RO mem' b t := by
  have g := h
  obtain ⟨g1, g2, g3, g4, g5, g6, g7, g8, g9, g10, g11, g12⟩ := h
  have hb := hq b (by omega) (by omega) (by omega) (by omega)
  exact ja_RO_c g (fun j _ _ => by rw [hb]) (by rw [hb]; exact g7) (by rw [hb]; exact g8) (hq _ (by omega) (by omega) (by omega) (by omega)) (ja_TO_c (hq _ (by omega) (by omega) (by omega) (by omega)) (hq _ (by omega) (by omega) (by omega) (by omega)) (hq _ (by omega) (by omega) (by omega) (by omega)) g2) (fun q q1 q2 => hq _ (by omega) (by omega) (by omega) (by omega)) hc (fun q q1 q2 => hq _ (by omega) (by omega) (by omega) (by omega))
theorem R_lt_RO {mem : ja_M} {b : Nat} {t x : Int} (h : ja_RO mem b t) : ja_RO (R_lt mem b x) b t := R_same h (fun q _ _ _ q4 => R_lt_o q4) (fun j hj => R_lt_j (by omega))
theorem R_kn_RO {mem : ja_M} {b : Nat} {t x : Int} (h : ja_RO mem b t) (ht : t ≤ 900000) (hx : 0 ≤ x ∧ x ≤ 999) : ja_RO (R_kn mem b x) b t := R_same (R_lt_RO (x := x) (R_ad_RO h ht hx)) (fun q q1 q2 q3 q4 => F_ad_o ⟨by omega, by omega⟩) (fun j hj => by rw [R_kn, F_ad_o ⟨by omega, by omega⟩])
theorem R_rs_o {mem : ja_M} {b q : Nat} {k : Int} (h : q ≠ b + 3) : R_rs mem b k q = mem q := by
  unfold R_rs
  exact ja_up_row (by omega)
theorem R_rs_RO {mem : ja_M} {b : Nat} {t k : Int} (h : ja_RO mem b t) : ja_RO (R_rs mem b k) b t := R_same h (fun q q1 q2 q3 q4 => R_rs_o q1) (fun j hj => by rw [R_rs_o (by omega)])
theorem R_dp_RO {mem : ja_M} {b : Nat} {t : Int} (h : ja_RO mem b t) : ja_RO (R_dp mem b) b t := R_same h (fun q q1 q2 q3 q4 => by unfold R_dp; exact ja_up_row q4) (fun j hj => by unfold R_dp; exact ja_up_j (by omega))
theorem R_af_RO {mem : ja_M} {b : Nat} {t x : Int} (h : ja_RO mem b t) (ht : t ≤ 900000) (hx : 0 ≤ x ∧ x ≤ 999) : ja_RO (R_af mem b x) b t := by
  unfold R_af
  split
  · exact R_rs_RO (R_kn_RO h ht hx)
  · exact R_dp_RO h
theorem R_pk_RO {mem : ja_M} {b : Nat} {t r k i : Int} (h : ja_RO mem b t) : ja_RO (R_pk mem b r k i) b t := R_same (R_so_RO h) (fun q q1 q2 q3 q4 => by unfold R_pk F_ap; exact ja_up_row (by omega)) (fun j hj => by unfold R_pk F_ap; exact ja_up_a (by omega))
theorem R_ap_RO {mem : ja_M} {b : Nat} {t r k i : Int} (h : ja_RO mem b t) : ja_RO (R_ap mem b r k i) b t := by
  unfold R_ap
  split
  · exact R_rs_RO (R_pk_RO h)
  · exact R_dp_RO h
