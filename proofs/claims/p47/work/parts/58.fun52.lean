-- THE TEXT THAT IS WRITTEN, AND WHAT IT SAYS
def t_app (mem : ja_M) (y : Nat) (c : Int) : ja_M := ja_up (ja_up mem (y + 42 + 1) (mem (y + 42) 1).toNat c) (y + 42) 1 (mem (y + 42) 1 + 1)
theorem t_app_1 {mem : ja_M} {y : Nat} {c : Int} : t_app mem y c (y + 42) 1 = mem (y + 42) 1 + 1 := ja_up_s _ _ _ _
theorem t_app_j {mem : ja_M} {y j : Nat} {c : Int} (h : j ≠ 1) : t_app mem y c (y + 42) j = mem (y + 42) j := by
  unfold t_app
  rw [ja_up_j h, ja_up_a (by omega)]
theorem t_app_o {mem : ja_M} {y q : Nat} {c : Int} (h : q ≠ y + 42) (h1 : q ≠ y + 42 + 1) : t_app mem y c q = mem q := by
  unfold t_app
  rw [ja_up_row h, ja_up_row h1]
theorem t_app_c {mem : ja_M} {y j : Nat} {c : Int} : t_app mem y c (y + 42 + 1) j = if j = (mem (y + 42) 1).toNat then c else mem (y + 42 + 1) j := by
  unfold t_app
  rw [ja_up_a (by omega)]
  by_cases q : j = (mem (y + 42) 1).toNat
  · rw [if_pos q, q, ja_up_s]
  · rw [if_neg q, ja_up_j q]
/-- the digits of a number of at most three -/
def dg (m : Int) : List Int := if 99 < m then [48 + m / 100, 48 + m / 10 % 10, 48 + m % 10] else if 9 < m then [48 + m / 10 % 10, 48 + m % 10] else [48 + m % 10]
theorem dg_len (m : Int) : 1 ≤ (dg m).length ∧ (dg m).length ≤ 3 := by
  unfold dg
  split
  · exact ⟨by simp, by simp⟩
  · split
    · exact ⟨by simp, by simp⟩
    · exact ⟨by simp, by simp⟩
/-- the text cs has been written since it was cleared -/
def X7 (lay : ja_Y) (M : ja_M) (n y : Nat) (sl : Nat → Option Nat) (t : Int) (v : Nat → Int) (cs : List Int) (K : Nat) : Prop := I7 lay M n y sl t v ∧ M (y + 42) 1 = (cs.length : Int) ∧ cs.length ≤ K ∧ ∀ i : Nat, i < cs.length → M (y + 42 + 1) i = cs.getD i 0
section
variable {lay : ja_Y} {mem M : ja_M} {n y : Nat} {sl : Nat → Option Nat} {t : Int} {v v' : Nat → Int}
theorem HO_len {mem' : ja_M} {x : Nat} {z : Int} (h : ja_HO mem x) (h1 : mem' x 1 = z) (hz : 0 ≤ z ∧ z ≤ 120) (hj : ∀ j, j ≠ 1 → mem' x j = mem x j) (hc : ∀ j, 0 ≤ mem' (x + 1) j ∧ mem' (x + 1) j ≤ 126) : ja_HO mem' x := by
  obtain ⟨a1, a2, a3, a4, a5⟩ := h
  unfold ja_HO
  rw [h1, hj 5 (by omega), hj 6 (by omega), hj 7 (by omega)]
  exact ⟨hz, hc, a3, a4, a5⟩
theorem I7_tap {c : Int} (h : I7 lay mem n y sl t v) (hc : 32 ≤ c ∧ c ≤ 126) (hl : mem (y + 42) 1 < 120) : I7 lay (t_app mem y c) n y sl t v := by
  have hH := h.O.2.2.1
  have hA := h.O.2.2.2.1
  refine I7_txt h (HO_len hH t_app_1 (by have := hH.1; omega) (fun j hj => t_app_j hj) (fun j => ?_)) (ja_AO_c (fun q qa qb => t_app_o (by omega) (by omega)) hA) (fun q hq => t_app_o (by omega) (by omega))
  rw [t_app_c]
  split
  · omega
  · exact hH.2.1 j
theorem I7_clr (h : I7 lay mem n y sl t v) : I7 lay (ja_up mem (y + 42) 1 0) n y sl t v := by
  have hH := h.O.2.2.1
  have hA := h.O.2.2.2.1
  refine I7_txt h (HO_len hH (ja_up_s _ _ _ _) (by omega) (fun j hj => ja_up_j hj) (fun j => ?_)) (ja_AO_c (fun q qa qb => ja_up_row (by omega)) hA) (fun q hq => ja_up_row (by omega))
  rw [ja_up_a (by omega)]
  exact hH.2.1 j
theorem X7_0 (h : I7 lay mem n y sl t v) : X7 lay (ja_up mem (y + 42) 1 0) n y sl t v [] 0 := ⟨I7_clr h, ja_up_s _ _ _ _, Nat.le_refl _, fun i hi => absurd hi (Nat.not_lt_zero i)⟩
theorem getD_l {a b : List Int} {i : Nat} (h : i < a.length) : (a ++ b).getD i 0 = a.getD i 0 := by
  rw [List.getD_eq_getElem?_getD, List.getD_eq_getElem?_getD, List.getElem?_append_left h]
theorem getD_r {a b : List Int} {i : Nat} : (a ++ b).getD (a.length + i) 0 = b.getD i 0 := by
  rw [List.getD_eq_getElem?_getD, List.getD_eq_getElem?_getD, List.getElem?_append_right (Nat.le_add_right _ _), Nat.add_sub_cancel_left]
theorem X7_a {c : Int} {cs : List Int} {K : Nat} (h : X7 lay M n y sl t v cs K) (hc : 32 ≤ c ∧ c ≤ 126) (hK : K ≤ 100) : X7 lay (t_app M y c) n y sl t v (cs ++ [c]) (K + 1) := by
  obtain ⟨h1, h2, h3, h4⟩ := h
  have hlen : (cs ++ [c]).length = cs.length + 1 := by rw [List.length_append]; rfl
  refine ⟨I7_tap h1 hc (by omega), by rw [t_app_1, h2, hlen]; rfl, by omega, fun i hi => ?_⟩
  rw [t_app_c, h2, Int.toNat_natCast]
  by_cases q : i = cs.length
  · rw [if_pos q, q]
    exact (getD_r (a := cs) (b := [c]) (i := 0)).symm
  · rw [if_neg q, h4 i (by omega), getD_l (by omega)]
end
-- what stands at a place
def t_at (f : Nat → Int) (p : Nat) (l : List Int) : Prop := ∀ i : Nat, i < l.length → f (p + i) = l.getD i 0
theorem t_at_c {f : Nat → Int} {p : Nat} {c : Int} {l : List Int} (h : t_at f p (c :: l)) : f p = c ∧ t_at f (p + 1) l := ⟨h 0 (Nat.succ_pos _), fun i hi => by
  have := h (i + 1) (Nat.succ_lt_succ hi)
  rw [Nat.add_right_comm]
  exact this⟩
theorem t_at_a {f : Nat → Int} {p : Nat} {a b : List Int} (h : t_at f p (a ++ b)) : t_at f p a ∧ t_at f (p + a.length) b := ⟨fun i hi => by
  have := h i (by rw [List.length_append]; omega)
  rw [getD_l hi] at this
  exact this, fun i hi => by
  have := h (a.length + i) (by rw [List.length_append]; omega)
  rw [getD_r] at this
  rw [Nat.add_assoc]
  exact this⟩
theorem he_at {f : Nat → Int} {ln : Int} {p : Nat} {c : Int} (h : f p = c) (hp : (p : Int) < ln) : N_he f ln (p : Int) = c := by
  unfold N_he
  rw [if_pos hp, Int.toNat_natCast, h]
theorem t_nms {f : Nat → Int} {ln p z d : Int} {k : Nat} (h : N_he f ln p = 48 + d) (hd : 0 ≤ d ∧ d ≤ 9) : N_nm f ln (k + 1) p z = N_nm f ln k (p + 1) ((if z < 0 then 0 else 10 * z) + d) := by
  simp only [N_nm]
  rw [h, if_pos ⟨by omega, by omega⟩, show (if z < 0 then 0 else 10 * z) + (48 + d) - 48 = (if z < 0 then 0 else 10 * z) + d by omega]
theorem t_nme {f : Nat → Int} {ln p z : Int} {k : Nat} (h : ¬ (48 ≤ N_he f ln p ∧ N_he f ln p ≤ 57)) : N_nm f ln (k + 1) p z = (z, p) := by
  simp only [N_nm]
  rw [if_neg h]
theorem nm_dg {f : Nat → Int} {ln : Int} {p : Nat} {m c : Int} (hm : 0 ≤ m ∧ m ≤ 999) (h : t_at f p (dg m)) (hl : ((p + (dg m).length : Nat) : Int) < ln) (hc : f (p + (dg m).length) = c) (hd : ¬ (48 ≤ c ∧ c ≤ 57)) : N_nm f ln 4 (p : Int) (-1) = (m, ((p + (dg m).length : Nat) : Int)) := by
  have he := he_at hc hl
  by_cases h3 : 99 < m
  · have e : dg m = [48 + m / 100, 48 + m / 10 % 10, 48 + m % 10] := if_pos h3
    rw [e] at h hl he ⊢
    obtain ⟨f0, h⟩ := t_at_c h
    obtain ⟨f1, h⟩ := t_at_c h
    obtain ⟨f2, -⟩ := t_at_c h
    have g0 := he_at f0 (ln := ln) (by simp at hl; omega)
    have g1 := he_at f1 (ln := ln) (by simp at hl; omega)
    have g2 := he_at f2 (ln := ln) (by simp at hl; omega)
    rw [show (4 : Nat) = 3 + 1 from rfl, t_nms g0 (by omega), if_pos (by decide), show (p : Int) + 1 = ((p + 1 : Nat) : Int) from rfl, show (3 : Nat) = 2 + 1 from rfl, t_nms g1 (by omega), if_neg (by omega), show ((p + 1 : Nat) : Int) + 1 = ((p + 1 + 1 : Nat) : Int) from rfl, t_nms (k := 1) g2 (by omega), if_neg (by omega)]
    rw [show ((p + 1 + 1 : Nat) : Int) + 1 = ((p + [48 + m / 100, 48 + m / 10 % 10, 48 + m % 10].length : Nat) : Int) from rfl, t_nme (k := 0) (by rw [he]; exact hd)]
    congr 1
    omega
  · by_cases h2 : 9 < m
    · have e : dg m = [48 + m / 10 % 10, 48 + m % 10] := by
        unfold dg
        rw [if_neg h3, if_pos h2]
      rw [e] at h hl he ⊢
      obtain ⟨f1, h⟩ := t_at_c h
      obtain ⟨f2, -⟩ := t_at_c h
      have g1 := he_at f1 (ln := ln) (by simp at hl; omega)
      have g2 := he_at f2 (ln := ln) (by simp at hl; omega)
      rw [show (4 : Nat) = 3 + 1 from rfl, t_nms g1 (by omega), if_pos (by decide), show (p : Int) + 1 = ((p + 1 : Nat) : Int) from rfl, show (3 : Nat) = 2 + 1 from rfl, t_nms g2 (by omega), if_neg (by omega)]
      rw [show ((p + 1 : Nat) : Int) + 1 = ((p + [48 + m / 10 % 10, 48 + m % 10].length : Nat) : Int) from rfl, t_nme (k := 1) (by rw [he]; exact hd)]
      congr 1
      omega
    · have e : dg m = [48 + m % 10] := by
        unfold dg
        rw [if_neg h3, if_neg h2]
      rw [e] at h hl he ⊢
      obtain ⟨f2, -⟩ := t_at_c h
      have g2 := he_at f2 (ln := ln) (by simp at hl; omega)
      rw [show (4 : Nat) = 3 + 1 from rfl, t_nms g2 (by omega), if_pos (by decide)]
      rw [show (p : Int) + 1 = ((p + [48 + m % 10].length : Nat) : Int) from rfl, t_nme (k := 2) (by rw [he]; exact hd)]
      congr 1
      omega
theorem e_3 {f : Nat → Int} {ln tl b : Int} {p : Nat} {T : Nat → Int} {l : List Int} (hb : 0 ≤ b ∧ b ≤ 999) (h : t_at f p (dg b ++ (59 :: l))) (hl : ((p + (dg b).length + 1 : Nat) : Int) ≤ ln) : N_e3 f ln (p : Int) tl T = (1, ((p + (dg b).length + 1 : Nat) : Int), tl + 1, ja_rs T (4 * tl + 3).toNat b) := by
  obtain ⟨h1, h2⟩ := t_at_a h
  obtain ⟨h3, -⟩ := t_at_c h2
  have hn := nm_dg (ln := ln) hb h1 (by omega) h3 (by decide)
  have he := he_at h3 (ln := ln) (by omega)
  unfold N_e3
  rw [hn]
  dsimp only
  rw [if_neg (by omega), he, show ja_b ((59 : Int) = 59) = 1 from rfl]
  rfl
theorem e_2 {f : Nat → Int} {ln tl b : Int} {p : Nat} {T : Nat → Int} {l : List Int} (hT : 0 ≤ T (4 * tl + 2).toNat) (hb : 0 ≤ b ∧ b ≤ 999) (h : t_at f p (64 :: (dg b ++ (59 :: l)))) (hl : ((p + 1 + (dg b).length + 1 : Nat) : Int) ≤ ln) : N_e2 f ln (p : Int) tl T = (1, ((p + 1 + (dg b).length + 1 : Nat) : Int), tl + 1, ja_rs T (4 * tl + 3).toNat b) := by
  obtain ⟨h0, h1⟩ := t_at_c h
  have he := he_at h0 (ln := ln) (by omega)
  unfold N_e2
  rw [if_neg (by omega), he, if_pos rfl]
  exact e_3 hb h1 hl
/-- an entry of a frame -/
theorem e_d {f : Nat → Int} {ln tl a b : Int} {p : Nat} {T : Nat → Int} {l : List Int} (h0 : 0 ≤ tl) (ha : 0 ≤ a ∧ a ≤ 999) (hb : 0 ≤ b ∧ b ≤ 999) (h : t_at f p (100 :: (dg a ++ (64 :: (dg b ++ (59 :: l)))))) (hl : ((p + 1 + (dg a).length + 1 + (dg b).length + 1 : Nat) : Int) ≤ ln) : N_en f ln (p : Int) tl T = (1, ((p + 1 + (dg a).length + 1 + (dg b).length + 1 : Nat) : Int), tl + 1, ja_rs (N_et T tl 0 a) (4 * tl + 3).toNat b) := by
  obtain ⟨h1, h2⟩ := t_at_c h
  obtain ⟨h3, h4⟩ := t_at_a h2
  have h5 := (t_at_c h4).1
  have he := he_at h1 (ln := ln) (by omega)
  have hn := nm_dg (ln := ln) ha h3 (by omega) h5 (by decide)
  have e2 : N_et T tl 0 a (4 * tl + 2).toNat = 0 := (N_et_v h0).2.2.1
  unfold N_en
  rw [he, if_pos (Or.inl rfl), show (p : Int) + 1 = ((p + 1 : Nat) : Int) from rfl, hn]
  dsimp only
  rw [if_neg (by omega), show N_e0 100 = 0 from rfl]
  unfold N_e1
  rw [if_pos (by decide)]
  exact e_2 (by omega) hb h4 hl
/-- an entry of a packet -/
theorem e_rc {f : Nat → Int} {ln tl a i b x e : Int} {p : Nat} {T : Nat → Int} {l : List Int} (h0 : 0 ≤ tl) (hx : (x = 114 ∧ e = 1) ∨ (x = 99 ∧ e = 2)) (ha : 0 ≤ a ∧ a ≤ 999) (hi : 0 ≤ i ∧ i ≤ 999) (hb : 0 ≤ b ∧ b ≤ 999) (h : t_at f p (x :: (dg a ++ (46 :: (dg i ++ (64 :: (dg b ++ (59 :: l)))))))) (hl : ((p + 1 + (dg a).length + 1 + (dg i).length + 1 + (dg b).length + 1 : Nat) : Int) ≤ ln) : N_en f ln (p : Int) tl T = (1, ((p + 1 + (dg a).length + 1 + (dg i).length + 1 + (dg b).length + 1 : Nat) : Int), tl + 1, ja_rs (ja_rs (N_et T tl e a) (4 * tl + 2).toNat i) (4 * tl + 3).toNat b) := by
  obtain ⟨h1, h2⟩ := t_at_c h
  obtain ⟨h3, h4⟩ := t_at_a h2
  obtain ⟨h5, h6⟩ := t_at_c h4
  obtain ⟨h7, h8⟩ := t_at_a h6
  have h9 := (t_at_c h8).1
  have he := he_at h1 (ln := ln) (by omega)
  have hn := nm_dg (ln := ln) ha h3 (by omega) h5 (by decide)
  have he2 := he_at h5 (ln := ln) (by omega)
  have hn2 := nm_dg (ln := ln) hi h7 (by omega) h9 (by decide)
  have e0 : N_e0 x = e := by
    unfold N_e0
    rcases hx with ⟨rfl, rfl⟩ | ⟨rfl, rfl⟩ <;> decide
  unfold N_en
  rw [he, if_pos (by omega), show (p : Int) + 1 = ((p + 1 : Nat) : Int) from rfl, hn]
  dsimp only
  rw [if_neg (by omega), e0]
  unfold N_e1
  rw [if_neg (by omega), he2, if_pos rfl, show ((p + 1 + (dg a).length : Nat) : Int) + 1 = ((p + 1 + (dg a).length + 1 : Nat) : Int) from rfl, hn2]
  dsimp only
  exact e_2 (by rw [ja_rs_s]; omega) hb h8 hl
theorem tx_s {f : Nat → Int} {ln p tl : Int} {k : Nat} {T : Nat → Int} : N_tx f ln (k + 1) p tl T = if p < ln then (if (N_en f ln p tl T).1 = 0 then N_en f ln p tl T else N_tx f ln k (N_en f ln p tl T).2.1 (N_en f ln p tl T).2.2.1 (N_en f ln p tl T).2.2.2) else (1, p, tl, T) := rfl
/-- the two arrivals of the text -/
def t_two (a b x c i d : Int) : List Int := 100 :: (dg a ++ (64 :: (dg b ++ (59 :: (x :: (dg c ++ (46 :: (dg i ++ (64 :: (dg d ++ [59]))))))))))
def t_T2 (T : Nat → Int) (a b e c i d : Int) : Nat → Int := ja_rs (ja_rs (N_et (ja_rs (N_et T 0 0 a) 3 b) 1 e c) 6 i) 7 d
theorem t_two_len (a b x c i d : Int) : (t_two a b x c i d).length = (0 + 1 + (dg a).length + 1 + (dg b).length + 1) + 1 + (dg c).length + 1 + (dg i).length + 1 + (dg d).length + 1 := by
  unfold t_two
  simp only [List.length_cons, List.length_append, List.length_nil]
  omega
theorem t_tx2 {f : Nat → Int} {ln a b x c i d e : Int} {k : Nat} {T : Nat → Int} {l : List Int} (ha : 0 ≤ a ∧ a ≤ 999) (hb : 0 ≤ b ∧ b ≤ 999) (hx : (x = 114 ∧ e = 1) ∨ (x = 99 ∧ e = 2)) (hc : 0 ≤ c ∧ c ≤ 999) (hi : 0 ≤ i ∧ i ≤ 999) (hd : 0 ≤ d ∧ d ≤ 999) (h : t_at f 0 (t_two a b x c i d ++ l)) (hl : ((t_two a b x c i d).length : Int) ≤ ln) : N_tx f ln (k + 2) 0 0 T = N_tx f ln k ((t_two a b x c i d).length : Int) 2 (t_T2 T a b e c i d) := by
  have hlen := t_two_len a b x c i d
  have h1 : t_at f 0 (100 :: (dg a ++ (64 :: (dg b ++ (59 :: (x :: (dg c ++ (46 :: (dg i ++ (64 :: (dg d ++ (59 :: l)))))))))))) := by
    have : t_two a b x c i d ++ l = 100 :: (dg a ++ (64 :: (dg b ++ (59 :: (x :: (dg c ++ (46 :: (dg i ++ (64 :: (dg d ++ (59 :: l))))))))))) := by
      unfold t_two
      simp only [List.cons_append, List.append_assoc, List.nil_append]
    rw [this] at h
    exact h
  have E1 : N_en f ln 0 0 T = (1, ((0 + 1 + (dg a).length + 1 + (dg b).length + 1 : Nat) : Int), 1, ja_rs (N_et T 0 0 a) 3 b) := e_d (ln := ln) (p := 0) (tl := 0) (T := T) (by decide) ha hb h1 (by rw [hlen] at hl; omega)
  have h2 := (t_at_c (t_at_a (t_at_c (t_at_a (t_at_c h1).2).2).2).2).2
  have E2 : N_en f ln ((0 + 1 + (dg a).length + 1 + (dg b).length + 1 : Nat) : Int) 1 (ja_rs (N_et T 0 0 a) 3 b) = (1, (((0 + 1 + (dg a).length + 1 + (dg b).length + 1) + 1 + (dg c).length + 1 + (dg i).length + 1 + (dg d).length + 1 : Nat) : Int), 2, t_T2 T a b e c i d) := e_rc (ln := ln) (p := 0 + 1 + (dg a).length + 1 + (dg b).length + 1) (tl := 1) (T := ja_rs (N_et T 0 0 a) 3 b) (by decide) hx hc hi hd h2 (by rw [hlen] at hl; omega)
  rw [show k + 2 = (k + 1) + 1 from rfl, tx_s, if_pos (by rw [hlen] at hl; omega), E1]
  dsimp only
  rw [if_neg (by decide), tx_s, if_pos (by rw [hlen] at hl; omega), E2]
  dsimp only
  rw [if_neg (by decide), hlen]
/-- the text read by itself -/
def t_G (mem : ja_M) (y : Nat) : ja_M := fun q j => if q = 0 then (if j = 5 then mem (y + 42) 1 else 0) else if q = 5 then mem (y + 42 + 1) j else 0
theorem t_G_TO {mem : ja_M} {y : Nat} (h : ja_HO mem (y + 42)) : N_TO (t_G mem y) 0 := ⟨h.1, h.2.1⟩
theorem t_G_x {mem : ja_M} {y : Nat} : L_x mem y (t_G mem y) 0 := ⟨rfl, fun j _ => rfl⟩
section
variable {lay : ja_Y} {mem M : ja_M} {n y : Nat} {sl : Nat → Option Nat} {t : Int} {v v' : Nat → Int}
theorem I7_rd (h : I7 lay M n y sl t v) : I7 lay (B_rd M y).2 n y sl t v := by
  obtain ⟨a1, a2, a3⟩ := B_rd_all h.O.2.2.1 h.O.2.2.2.1
  exact I7_txt h a2 a1 a3
theorem I7_sch (h : I7 lay M n y sl t v) : I7 lay (B_sc M y).2 n y sl t (N_sw v (N_rdt (t_G M y) 0)) := by
  have hs := h.so
  have hH := h.O.2.2.1
  have hA := h.O.2.2.2.1
  obtain ⟨b1, b2, b3⟩ := B_sc_RO h.R hH hA
  have hf := fun q hq => @B_sc_f M y q hH hA hq
  have hT := S1_ok.2.2.2.2.2.2.2.2.1 M (t_G M y) y 0 v t h.R hH hA h.N (t_G_TO hH) t_G_x h.T
  have hC := h.N.1.C
  have hG : G_v (N_sw v (N_rdt (t_G M y) 0)) := G_kg (fun j hj => N_sw_n (by omega) (by omega) (by omega)) h.G
  have hN := N_sw_O h.N (t_G_TO hH)
  obtain ⟨hB, hO, hn, hsl, -⟩ := h
  exact ⟨hB, BO_text (Int.le_refl _) hO (fun i o hi ho => by have := hs i o hi ho; omega) b1 b2 b3 (fun q hq => hf q (by omega)), hn, hsl, hN, hT, hG⟩
theorem X7_rd {cs : List Int} {K : Nat} (h : X7 lay M n y sl t v cs K) : X7 lay (B_rd M y).2 n y sl t v cs K := by
  obtain ⟨h1, h2, h3, h4⟩ := h
  obtain ⟨e1, e2⟩ := B_rd_x h1.O.2.2.1 h1.O.2.2.2.1
  exact ⟨I7_rd h1, by rw [e1, h2], h3, fun i hi => by rw [e2, h4 i hi]⟩
theorem X7_sc {cs : List Int} {K : Nat} (h : X7 lay M n y sl t v cs K) : X7 lay (B_sc M y).2 n y sl t (N_sw v (N_rdt (t_G M y) 0)) cs K := by
  obtain ⟨h1, h2, h3, h4⟩ := h
  obtain ⟨e1, e2⟩ := B_sc_x h1.O.2.2.1 h1.O.2.2.2.1
  exact ⟨I7_sch h1, by rw [e1, h2], h3, fun i hi => by rw [e2, h4 i hi]⟩
theorem t_rdt : N_rdt (t_G M y) 0 = N_tx (M (y + 42 + 1)) (M (y + 42) 1) 25 0 0 (t_G M y 8) := rfl
theorem X7_at {cs : List Int} {K : Nat} (h : X7 lay M n y sl t v cs K) : t_at (M (y + 42 + 1)) 0 cs := fun i hi => by
  rw [Nat.zero_add]
  exact h.2.2.2 i hi
theorem t_rd1 {a b x c i d e : Int} {K : Nat} (ha : 0 ≤ a ∧ a ≤ 999) (hb : 0 ≤ b ∧ b ≤ 999) (hx : (x = 114 ∧ e = 1) ∨ (x = 99 ∧ e = 2)) (hc : 0 ≤ c ∧ c ≤ 999) (hi : 0 ≤ i ∧ i ≤ 999) (hd : 0 ≤ d ∧ d ≤ 999) (h : X7 lay M n y sl t v (t_two a b x c i d) K) : N_rdt (t_G M y) 0 = (1, ((t_two a b x c i d).length : Int), 2, t_T2 (t_G M y 8) a b e c i d) := by
  have hat := X7_at h
  have hl := h.2.1
  rw [t_rdt, show (25 : Nat) = 23 + 2 from rfl, t_tx2 (l := []) ha hb hx hc hi hd (by rw [List.append_nil]; exact hat) (by omega), show (23 : Nat) = 22 + 1 from rfl, tx_s, if_neg (by omega)]
theorem t_rd2 {a b x c i d e : Int} {K : Nat} (ha : 0 ≤ a ∧ a ≤ 999) (hb : 0 ≤ b ∧ b ≤ 999) (hx : (x = 114 ∧ e = 1) ∨ (x = 99 ∧ e = 2)) (hc : 0 ≤ c ∧ c ≤ 999) (hi : 0 ≤ i ∧ i ≤ 999) (hd : 0 ≤ d ∧ d ≤ 999) (h : X7 lay M n y sl t v (t_two a b x c i d ++ [120]) K) : (N_rdt (t_G M y) 0).1 = 0 ∧ (N_rdt (t_G M y) 0).2.1 = ((t_two a b x c i d).length : Int) := by
  have hat := X7_at h
  have hl := h.2.1
  rw [List.length_append] at hl
  have hl2 : M (y + 42) 1 = ((t_two a b x c i d).length : Int) + 1 := hl
  have h120 := (t_at_c (t_at_a hat).2).1
  rw [Nat.zero_add] at h120
  have he := he_at h120 (ln := M (y + 42) 1) (by omega)
  rw [t_rdt, show (25 : Nat) = 23 + 2 from rfl, t_tx2 (l := [120]) ha hb hx hc hi hd hat (by omega), show (23 : Nat) = 22 + 1 from rfl, tx_s, if_pos (by omega)]
  have en : N_en (M (y + 42 + 1)) (M (y + 42) 1) ((t_two a b x c i d).length : Int) 2 (t_T2 (t_G M y 8) a b e c i d) = (0, ((t_two a b x c i d).length : Int), 2, ja_rs (t_T2 (t_G M y 8) a b e c i d) (4 * (2 : Int)).toNat (N_e0 120)) := by
    unfold N_en
    rw [he, if_neg (by decide)]
  rw [en, if_pos rfl]
  exact ⟨rfl, rfl⟩
theorem t_fp1 {a b x c i d e : Int} {K : Nat} (ha : 0 ≤ a ∧ a ≤ 999) (hb : 0 ≤ b ∧ b ≤ 999) (hx : (x = 114 ∧ e = 1) ∨ (x = 99 ∧ e = 2)) (hc : 0 ≤ c ∧ c ≤ 999) (hi : 0 ≤ i ∧ i ≤ 999) (hd : 0 ≤ d ∧ d ≤ 999) (h : X7 lay M n y sl t v (t_two a b x c i d) K) : (B_rd M y).1 = -1004 := by
  have hH := h.1.O.2.2.1
  rw [B_fp_N hH t_G_x (t_G_TO hH), t_rd1 ha hb hx hc hi hd h]
  rfl
theorem t_fp2 {a b x c i d e : Int} {K : Nat} (ha : 0 ≤ a ∧ a ≤ 999) (hb : 0 ≤ b ∧ b ≤ 999) (hx : (x = 114 ∧ e = 1) ∨ (x = 99 ∧ e = 2)) (hc : 0 ≤ c ∧ c ≤ 999) (hi : 0 ≤ i ∧ i ≤ 999) (hd : 0 ≤ d ∧ d ≤ 999) (h : X7 lay M n y sl t v (t_two a b x c i d ++ [120]) K) : (B_rd M y).1 = ((t_two a b x c i d).length : Int) ∧ (B_sc M y).1 = -1003 := by
  have hH := h.1.O.2.2.1
  obtain ⟨e1, e2⟩ := t_rd2 ha hb hx hc hi hd h
  rw [B_fp_N hH t_G_x (t_G_TO hH), (B_sc_N h.1.N hH h.1.O.2.2.2.1 (t_G_TO hH) t_G_x h.1.T.1.1 h.1.T.2).1, e1, if_pos rfl, e2]
  refine ⟨rfl, ?_⟩
  unfold N_sr
  rw [e1, if_pos rfl]
theorem N_sr_1 {w T : Nat → Int} {p : Int} : N_sr w (1, p, 2, T) = if N_cas w T (2 : Int).toNat 0 = 0 then -1001 else if 24 < w 25 + 2 then -1002 else 2 := by
  unfold N_sr
  exact if_neg (show ¬ (1 : Int) = 0 by decide)
theorem N_sw_1 {w T : Nat → Int} {p : Int} : N_sw w (1, p, 2, T) = if N_cas w T (2 : Int).toNat 0 = 0 then w else if 24 < w 25 + 2 then w else N_sd w T 2 := by
  unfold N_sw
  exact if_neg (show ¬ (1 : Int) = 0 by decide)
theorem t_sc1 {a b x c i d e : Int} {K : Nat} (ha : 0 ≤ a ∧ a ≤ 999) (hb : 0 ≤ b ∧ b ≤ 999) (hx : (x = 114 ∧ e = 1) ∨ (x = 99 ∧ e = 2)) (hc : 0 ≤ c ∧ c ≤ 999) (hi : 0 ≤ i ∧ i ≤ 999) (hd : 0 ≤ d ∧ d ≤ 999) (hP : N_hP v (if e = 1 then 1 else 0) c i) (h9 : v 9 < b) (h : X7 lay M n y sl t v (t_two a b x c i d) K) : (B_sc M y).1 = (if v 9 < d then (if 22 < v 25 then -1002 else 2) else -1001) ∧ N_sw v (N_rdt (t_G M y) 0) 25 = v 25 + (if v 9 < d ∧ ¬ 22 < v 25 then 2 else 0) := by
  have hH := h.1.O.2.2.1
  rw [(B_sc_N h.1.N hH h.1.O.2.2.2.1 (t_G_TO hH) t_G_x h.1.T.1.1 h.1.T.2).1, t_rd1 ha hb hx hc hi hd h]
  generalize t_G M y 8 = T0
  have i0 : N_ia v (t_T2 T0 a b e c i d) ((0 : Nat) : Int) := ⟨by rw [show t_T2 T0 a b e c i d (4 * ((0 : Nat) : Int)).toNat = 0 from rfl, if_pos rfl]; exact ha, h9⟩
  have i1 : N_ia v (t_T2 T0 a b e c i d) ((0 + 1 : Nat) : Int) ↔ v 9 < d := by
    have e4 : t_T2 T0 a b e c i d (4 * ((0 + 1 : Nat) : Int)).toNat = e := rfl
    constructor
    · intro q
      exact q.2
    · intro q
      refine ⟨?_, q⟩
      rw [e4, if_neg (by omega)]
      exact hP
  have ec : N_cas v (t_T2 T0 a b e c i d) (2 : Int).toNat 0 = if v 9 < d then 1 else 0 := by
    show N_cas v (t_T2 T0 a b e c i d) 2 0 = _
    simp only [N_cas]
    rw [if_pos i0]
    by_cases q : v 9 < d
    · rw [if_pos (i1.mpr q), if_pos q]
    · rw [if_neg (fun r => q (i1.mp r)), if_neg q]
  rw [N_sr_1, N_sw_1, ec]
  by_cases q : v 9 < d
  · rw [if_pos q, if_pos q, if_neg (show ¬ (1 : Int) = 0 by decide), if_neg (show ¬ (1 : Int) = 0 by decide)]
    by_cases r : 22 < v 25
    · rw [if_pos (show 24 < v 25 + 2 by omega), if_pos r, if_pos (show 24 < v 25 + 2 by omega), if_neg (fun w => w.2 r)]
      exact ⟨rfl, by omega⟩
    · rw [if_neg (show ¬ 24 < v 25 + 2 by omega), if_neg r, if_neg (show ¬ 24 < v 25 + 2 by omega), if_pos ⟨q, r⟩]
      refine ⟨rfl, ?_⟩
      unfold N_sd
      exact ja_rs_s _ _ _
  · rw [if_neg q, if_neg q, if_pos rfl, if_pos rfl, if_neg (fun w => q w.1)]
    exact ⟨rfl, by omega⟩
end
