-- arrivals, the window, the schedule
def N_be (v : Nat → Int) : Nat → Int := if v 10 < 0 then ja_rs v 10 (v 9 + v 5) else v
def N_sh (v : Nat → Int) : Nat → (Nat → Int)
  | 0 => v
  | j + 1 => ja_rs (N_sh v j) (2372 + j) (v (2372 + j + 1))
def N_s0 (v : Nat → Int) : Nat → Int := if v 24 = 16 then ja_rs (N_sh v 15) 24 15 else v
def N_se (v : Nat → Int) (t : Int) : Nat → Int := ja_rs (ja_rs (N_s0 v) (2372 + N_s0 v 24).toNat t) 24 (N_s0 v 24 + 1)
def N_a1 (u : Nat → Int) (x : Int) : Nat → Int := ja_rs (ja_rs u (30 + x).toNat 2) 17 (u 17 + if x < u 11 then 1 else 0)
def N_aw (v : Nat → Int) (x : Int) : Nat → Int := N_se (N_a1 (N_be v) x) (N_be v 9 - x * N_be v 0)
def N_av (v : Nat → Int) (x : Int) : Nat → Int := if N_kn v x then ja_rs v 18 (v 18 + 1) else (N_rs 0 (x / N_ar v) 40 0 (N_aw v x)).2
def N_an (v : Nat → Int) (x : Int) : Int := if N_kn v x then 0 else 1 + (N_rs 0 (x / N_ar v) 40 0 (N_aw v x)).1
def N_qw (v : Nat → Int) (r k i : Int) : Nat → Int := ja_rs (N_be v) (N_pk v r k i).toNat 1
def N_qv (v : Nat → Int) (r k i : Int) : Nat → Int := if v (N_pk v r k i).toNat = 1 then ja_rs v 18 (v 18 + 1) else (N_rs 0 k 40 0 (N_qw v r k i)).2
def N_qn (v : Nat → Int) (r k i : Int) : Int := if v (N_pk v r k i).toNat = 1 then 0 else (N_rs 0 k 40 0 (N_qw v r k i)).1
def N_c4 (w : Nat → Int) (d s : Int) : Nat → (Nat → Int)
  | 0 => w
  | j + 1 => ja_rs (N_c4 w d s j) (d + j).toNat (N_c4 w d s j (s + j).toNat)
def N_ab (v : Nat → Int) : Nat → Int × (Nat → Int)
  | 0 => (0, v)
  | i + 1 => if (N_ab v i).2 (2388 + 4 * (i : Int) + 3).toNat = (N_ab v i).2 9 then ((N_ab v i).1, if (N_ab v i).2 (2388 + 4 * (i : Int)).toNat = 0 then N_av (N_ab v i).2 ((N_ab v i).2 (2388 + 4 * (i : Int) + 1).toNat) else N_qv (N_ab v i).2 (if (N_ab v i).2 (2388 + 4 * (i : Int)).toNat = 1 then 1 else 0) ((N_ab v i).2 (2388 + 4 * (i : Int) + 1).toNat) ((N_ab v i).2 (2388 + 4 * (i : Int) + 2).toNat)) else ((N_ab v i).1 + 1, N_c4 (N_ab v i).2 (2388 + 4 * (N_ab v i).1) (2388 + 4 * (i : Int)) 4)
def N_as (v : Nat → Int) : Nat → Int := ja_rs (N_ab v (v 25).toNat).2 25 (N_ab v (v 25).toNat).1
-- what holds of a state
abbrev N_pe (v : Nat → Int) (a b c : Int) : Prop := (0 ≤ a ∧ a ≤ 2) ∧ (a = 0 → b ≤ 999) ∧ (¬ a = 0 → N_hP v (if a = 1 then 1 else 0) b c)
def N_P (v : Nat → Int) : Prop := ∀ j : Int, 0 ≤ j → j < v 25 → N_pe v (v (2388 + 4 * j).toNat) (v (2388 + 4 * j + 1).toNat) (v (2388 + 4 * j + 2).toNat)
def N_O (v : Nat → Int) (t : Int) : Prop := N_R v ∧ (v 9 ≤ t ∧ v 10 ≤ t + 200 ∧ v 12 ≤ v 9 ∧ v 13 ≤ v 11 ∧ v 14 ≤ v 11 ∧ v 21 ≤ v 11 ∧ v 23 ≤ v 22) ∧ N_P v
/-- the places of which more is said than a range -/
def N_k (v w : Nat → Int) : Prop := ∀ j, (j < 15 ∨ j = 21 ∨ j = 22 ∨ j = 23 ∨ j = 25 ∨ 2388 ≤ j) → w j = v j
theorem N_k.rf {v : Nat → Int} : N_k v v := fun _ _ => rfl
theorem N_k.tr {u v w : Nat → Int} (h : N_k u v) (h2 : N_k v w) : N_k u w := fun j hj => (h2 j hj).trans (h j hj)
theorem N_k.rs {v w : Nat → Int} {i : Nat} {z : Int} (h : N_k v w) (hi : 15 ≤ i ∧ i ≠ 21 ∧ i ≠ 22 ∧ i ≠ 23 ∧ i ≠ 25 ∧ i < 2388) : N_k v (ja_rs w i z) := fun j hj => by
  rw [ja_rs_n (by omega)]
  exact h j hj
theorem N_k.ss {v w : Nat → Int} (h : N_k v w) : N_ss v w := fun j hj => h j (by omega)
theorem N_fr.k {v w : Nat → Int} (h : N_fr v w) : N_k v w := fun j hj => h.1 j (by omega)
theorem N_P.c {v w : Nat → Int} (hP : N_P v) (hs : N_ss v w) (h25 : w 25 = v 25) (hp : ∀ j, 2388 ≤ j → w j = v j) : N_P w := by
  intro j h0 hj
  rw [h25] at hj
  have h := hP j h0 hj
  rw [hp _ (by omega), hp _ (by omega), hp _ (by omega)]
  exact ⟨h.1, h.2.1, fun q => hs.hP.mpr (h.2.2 q)⟩
theorem N_O.kp {v w : Nat → Int} {t : Int} (h : N_O v t) (hR : N_R w) (hk : N_k v w) : N_O w t := by
  obtain ⟨-, h1, h2⟩ := h
  refine ⟨hR, ?_, h2.c hk.ss (hk 25 (by omega)) (fun j hj => hk j (by omega))⟩
  rw [hk 9 (by omega), hk 10 (by omega), hk 11 (by omega), hk 12 (by omega), hk 13 (by omega), hk 14 (by omega), hk 21 (by omega), hk 22 (by omega), hk 23 (by omega)]
  exact h1
theorem N_be_n {v : Nat → Int} {j : Nat} (h : j ≠ 10) : N_be v j = v j := by
  unfold N_be
  split
  · exact ja_rs_n h
  · rfl
theorem N_be_O {v : Nat → Int} {t : Int} (h : N_O v t) (ht : t ≤ 900000) : N_O (N_be v) t := by
  have h0 := h
  obtain ⟨hR, h1, h2⟩ := h
  have hS := hR.S
  have hC := hR.C
  unfold N_be
  split
  · have hR1 : N_R (ja_rs v 10 (v 9 + v 5)) := hR.rs (show -1 ≤ v 9 + v 5 ∧ v 9 + v 5 ≤ 900300 by omega)
    refine ⟨hR1, ?_, h2.c (N_ss.rf.rs (by omega)) (ja_rs_n (by omega)) (fun j hj => ja_rs_n (by omega))⟩
    rw [ja_rs_s, ja_rs_n (show (9 : Nat) ≠ 10 by omega), ja_rs_n (show (11 : Nat) ≠ 10 by omega), ja_rs_n (show (12 : Nat) ≠ 10 by omega), ja_rs_n (show (13 : Nat) ≠ 10 by omega), ja_rs_n (show (14 : Nat) ≠ 10 by omega), ja_rs_n (show (21 : Nat) ≠ 10 by omega), ja_rs_n (show (22 : Nat) ≠ 10 by omega), ja_rs_n (show (23 : Nat) ≠ 10 by omega)]
    omega
  · exact h0
theorem N_sh_n {v : Nat → Int} {q : Nat} : ∀ j : Nat, (q < 2372 ∨ 2372 + j ≤ q) → N_sh v j q = v q
  | 0, _ => rfl
  | j + 1, h => by
    simp only [N_sh]
    rw [ja_rs_n (by omega)]
    exact N_sh_n j (by omega)
theorem N_sh_R {v : Nat → Int} (hR : N_R v) : ∀ j : Nat, j ≤ 15 → N_R (N_sh v j)
  | 0, _ => hR
  | j + 1, hj => (N_sh_R hR j (by omega)).rs ((N_inW (by omega) (by omega)).mpr (hR.W (by omega) (by omega)))
theorem N_s0_R {v : Nat → Int} (hR : N_R v) : N_R (N_s0 v) ∧ (0 ≤ N_s0 v 24 ∧ N_s0 v 24 ≤ 15) ∧ N_k v (N_s0 v) := by
  have hC := hR.C
  unfold N_s0
  split
  · have h1 : N_R (ja_rs (N_sh v 15) 24 15) := (N_sh_R hR 15 (by omega)).rs (show (0 : Int) ≤ 15 ∧ (15 : Int) ≤ 16 by omega)
    refine ⟨h1, by rw [ja_rs_s]; omega, fun j hj => ?_⟩
    rw [ja_rs_n (by omega)]
    exact N_sh_n 15 (by omega)
  · exact ⟨hR, by omega, N_k.rf⟩
theorem N_se_R {v : Nat → Int} {t : Int} (hR : N_R v) (ht : -1000000 ≤ t ∧ t ≤ 1000000) : N_R (N_se v t) ∧ N_k v (N_se v t) := by
  obtain ⟨h1, h2, h3⟩ := N_s0_R hR
  unfold N_se
  exact ⟨(h1.rs ((N_inW (by omega) (by omega)).mpr ht)).rs (show 0 ≤ N_s0 v 24 + 1 ∧ N_s0 v 24 + 1 ≤ 16 by omega), (h3.rs ⟨by omega, by omega, by omega, by omega, by omega, by omega⟩).rs ⟨by omega, by omega, by omega, by omega, by omega, by omega⟩⟩
theorem N_a1_R {u : Nat → Int} {x : Int} (hR : N_R u) (hx : 0 ≤ x ∧ x ≤ 999) : N_R (N_a1 u x) ∧ N_k u (N_a1 u x) := by
  unfold N_a1
  exact ⟨(hR.rs ((N_inF (by omega) (by omega)).mpr ⟨by omega, by omega⟩)).rs trivial, (N_k.rf.rs ⟨by omega, by omega, by omega, by omega, by omega, by omega⟩).rs ⟨by omega, by omega, by omega, by omega, by omega, by omega⟩⟩
theorem N_fxs {v : Nat → Int} {x : Int} (hS : N_S v) (hx : 0 ≤ x ∧ x ≤ 1000) : 0 ≤ x * v 0 ∧ x * v 0 ≤ 16000 := by
  have := ja_mulb hx.1 hx.2 (by have := hS.1; omega : 0 ≤ v 0) hS.1.2
  omega
theorem N_aw_O {v : Nat → Int} {t x : Int} (h : N_O v t) (ht : t ≤ 900000) (hx : 0 ≤ x ∧ x ≤ 999) : N_O (N_aw v x) t := by
  have hb := N_be_O h ht
  obtain ⟨a1, a2⟩ := N_a1_R hb.1 hx
  have hf := N_fxs (x := x) hb.1.S ⟨by omega, by omega⟩
  have hc := hb.1.C
  obtain ⟨s1, s2⟩ := N_se_R (t := N_be v 9 - x * N_be v 0) a1 ⟨by omega, by omega⟩
  exact hb.kp s1 (a2.tr s2)
theorem N_be_ss {v : Nat → Int} : N_ss v (N_be v) := fun j hj => N_be_n (by omega)
theorem N_aw_ss {v : Nat → Int} {t x : Int} (h : N_O v t) (ht : t ≤ 900000) (hx : 0 ≤ x ∧ x ≤ 999) : N_ss v (N_aw v x) := by
  have hb := N_be_O h ht
  obtain ⟨a1, a2⟩ := N_a1_R hb.1 hx
  have hf := N_fxs (x := x) hb.1.S ⟨by omega, by omega⟩
  have hc := hb.1.C
  obtain ⟨s1, s2⟩ := N_se_R (t := N_be v 9 - x * N_be v 0) a1 ⟨by omega, by omega⟩
  exact N_be_ss.tr (a2.tr s2).ss
theorem N_rs_O {v : Nat → Int} {t k : Int} (h : N_O v t) (hk : N_hB v k) {a : Int} : N_O (N_rs a k 40 0 v).2 t := by
  have hf := N_rs_fr (a := a) 40 0 v h.1.S hk
  exact h.kp (hf.R h.1) hf.k
theorem N_db_O {v : Nat → Int} {t : Int} (h : N_O v t) : N_O (ja_rs v 18 (v 18 + 1)) t := h.kp (h.1.rs trivial) (N_k.rf.rs ⟨by omega, by omega, by omega, by omega, by omega, by omega⟩)
/-- what an arrival leaves: all but the start, and what N_k doesn't name -/
def N_kb (v w : Nat → Int) : Prop := ∀ j, j ≠ 10 → (j < 15 ∨ j = 21 ∨ j = 22 ∨ j = 23 ∨ j = 25 ∨ 2388 ≤ j) → w j = v j
theorem N_k.b {v w : Nat → Int} (h : N_k v w) : N_kb v w := fun j _ hj => h j hj
theorem N_kb.tr {u v w : Nat → Int} (h : N_kb u v) (h2 : N_kb v w) : N_kb u w := fun j h10 hj => (h2 j h10 hj).trans (h j h10 hj)
theorem N_be_kb {v : Nat → Int} : N_kb v (N_be v) := fun j h _ => N_be_n h
theorem N_av_O {v : Nat → Int} {t x : Int} (h : N_O v t) (ht : t ≤ 900000) (hx : 0 ≤ x ∧ x ≤ 999) : N_O (N_av v x) t ∧ N_kb v (N_av v x) := by
  have hw := N_aw_O h ht hx
  have hs := N_aw_ss h ht hx
  have hB : N_hB (N_aw v x) (x / N_ar v) := hs.hB.mpr (N_blk h.1.S hx)
  unfold N_av
  split
  · exact ⟨N_db_O h, (N_k.rf.rs ⟨by omega, by omega, by omega, by omega, by omega, by omega⟩).b⟩
  · refine ⟨N_rs_O hw hB, ?_⟩
    have hb := N_be_O h ht
    obtain ⟨a1, a2⟩ := N_a1_R hb.1 hx
    have hf := N_fxs (x := x) hb.1.S ⟨by omega, by omega⟩
    have hc := hb.1.C
    obtain ⟨s1, s2⟩ := N_se_R (t := N_be v 9 - x * N_be v 0) a1 ⟨by omega, by omega⟩
    exact N_be_kb.tr ((a2.tr s2).tr (N_rs_fr (a := 0) 40 0 (N_aw v x) hw.1.S hB).k).b
theorem N_qw_O {v : Nat → Int} {t r k i : Int} (h : N_O v t) (ht : t ≤ 900000) (hk : N_hB v k) (hi : 0 ≤ i ∧ i ≤ 6) : N_O (N_qw v r k i) t ∧ N_kb v (N_qw v r k i) ∧ N_ss v (N_qw v r k i) := by
  have hb := N_be_O h ht
  have hp := N_pk_in (r := r) h.1.S hk hi
  unfold N_qw
  have hkk : N_k (N_be v) (ja_rs (N_be v) (N_pk v r k i).toNat 1) := N_k.rf.rs ⟨by omega, by omega, by omega, by omega, by omega, by omega⟩
  exact ⟨hb.kp (hb.1.rs ((N_inK (by omega) (by omega)).mpr ⟨by omega, by omega⟩)) hkk, N_be_kb.tr hkk.b, N_be_ss.tr hkk.ss⟩
theorem N_qv_O {v : Nat → Int} {t r k i : Int} (h : N_O v t) (ht : t ≤ 900000) (hk : N_hB v k) (hi : 0 ≤ i ∧ i ≤ 6) : N_O (N_qv v r k i) t ∧ N_kb v (N_qv v r k i) := by
  obtain ⟨hw, hwk, hs⟩ := N_qw_O (r := r) h ht hk hi
  have hB : N_hB (N_qw v r k i) k := hs.hB.mpr hk
  unfold N_qv
  split
  · exact ⟨N_db_O h, (N_k.rf.rs ⟨by omega, by omega, by omega, by omega, by omega, by omega⟩).b⟩
  · exact ⟨N_rs_O hw hB, hwk.tr (N_rs_fr (a := 0) 40 0 (N_qw v r k i) hw.1.S hB).k.b⟩
theorem N_hP_6 {v : Nat → Int} {r k i : Int} (hS : N_S v) (h : N_hP v r k i) : 0 ≤ i ∧ i ≤ 6 := by
  obtain ⟨-, -, -, h3, h4, -⟩ := hS
  obtain ⟨-, h1, h2⟩ := h
  split at h2 <;> omega
theorem N_c4_n {w : Nat → Int} {d s : Int} {q : Nat} : ∀ j : Nat, (∀ c : Nat, c < j → q ≠ (d + c).toNat) → N_c4 w d s j q = w q
  | 0, _ => rfl
  | j + 1, h => by
    simp only [N_c4]
    rw [ja_rs_n (h j (by omega))]
    exact N_c4_n j (fun c hc => h c (by omega))
theorem N_c4_s {w : Nat → Int} {d s : Int} (hd : 0 ≤ d) (hds : d = s ∨ d + 4 ≤ s) : ∀ j : Nat, j ≤ 4 → ∀ c : Nat, c < j → N_c4 w d s j (d + c).toNat = w (s + c).toNat
  | 0, _, c, hc => by omega
  | j + 1, hj, c, hc => by
    simp only [N_c4]
    by_cases hcj : c = j
    · subst hcj
      rw [ja_rs_s]
      exact N_c4_n c (fun e he => by omega)
    · rw [ja_rs_n (by omega)]
      exact N_c4_s hd hds j (by omega) c (by omega)
theorem N_c4_R {w : Nat → Int} {d s : Int} (hR : N_R w) (hd : 2388 ≤ d ∧ d ≤ 2480) (hs : 2388 ≤ s ∧ s ≤ 2480) : ∀ j : Nat, j ≤ 4 → N_R (N_c4 w d s j)
  | 0, _ => hR
  | j + 1, hj => by
    have ih := N_c4_R hR hd hs j (by omega)
    exact ih.rs ((N_inP (by omega)).mpr (ih.P (by omega) (by omega)))
theorem N_ab_O {v : Nat → Int} {t : Int} (h : N_O v t) (ht : t ≤ 900000) : ∀ i : Nat, (i : Int) ≤ v 25 → N_O (N_ab v i).2 t ∧ (0 ≤ (N_ab v i).1 ∧ (N_ab v i).1 ≤ i) ∧ (∀ j, j ≠ 10 → (j < 15 ∨ j = 21 ∨ j = 22 ∨ j = 23 ∨ j = 25) → (N_ab v i).2 j = v j)
  | 0, _ => ⟨h, ⟨by simp [N_ab], by simp [N_ab]⟩, fun _ _ _ => rfl⟩
  | i + 1, hi => by
    obtain ⟨hO, ⟨l0, l1⟩, hk⟩ := N_ab_O h ht i (by omega)
    have hc := hO.1.C
    have h25 := hk 25 (by omega) (by omega)
    have hpe := hO.2.2 (i : Int) (by omega) (by omega)
    have hp1 := hO.1.P (j := (2388 + 4 * (i : Int) + 1).toNat) (by omega) (by omega)
    simp only [N_ab]
    generalize (N_ab v i).2 = w at *
    generalize (N_ab v i).1 = l at *
    split
    · dsimp only
      split
      · rename_i hz
        obtain ⟨o1, o2⟩ := N_av_O hO ht ⟨hp1.1, hpe.2.1 hz⟩
        exact ⟨o1, ⟨by omega, by omega⟩, fun j a b => (o2 j a (by omega)).trans (hk j a b)⟩
      · rename_i hz
        have hh := hpe.2.2 hz
        obtain ⟨o1, o2⟩ := N_qv_O (r := if w (2388 + 4 * (i : Int)).toNat = 1 then 1 else 0) hO ht hh.1 (N_hP_6 hO.1.S hh)
        exact ⟨o1, ⟨by omega, by omega⟩, fun j a b => (o2 j a (by omega)).trans (hk j a b)⟩
    · dsimp only
      have hds : (2388 + 4 * l : Int) = 2388 + 4 * (i : Int) ∨ (2388 + 4 * l : Int) + 4 ≤ 2388 + 4 * (i : Int) := by omega
      have hnn : ∀ q : Nat, (q < 2388 ∨ (2388 + 4 * l + 4 : Int) ≤ (q : Int)) → N_c4 w (2388 + 4 * l) (2388 + 4 * (i : Int)) 4 q = w q := fun q hq => N_c4_n 4 (fun c hc => by omega)
      have hlow : ∀ q : Nat, (q : Int) < 2388 + 4 * l → N_c4 w (2388 + 4 * l) (2388 + 4 * (i : Int)) 4 q = w q := fun q hq => N_c4_n 4 (fun c hc => by omega)
      have hRR := N_c4_R hO.1 (d := 2388 + 4 * l) (s := 2388 + 4 * (i : Int)) ⟨by omega, by omega⟩ ⟨by omega, by omega⟩ 4 (by omega)
      have hcs : ∀ c : Nat, c < 4 → N_c4 w (2388 + 4 * l) (2388 + 4 * (i : Int)) 4 (2388 + 4 * l + c).toNat = w (2388 + 4 * (i : Int) + c).toNat := N_c4_s (by omega) hds 4 (by omega)
      have hss : N_ss w (N_c4 w (2388 + 4 * l) (2388 + 4 * (i : Int)) 4) := fun q hq => hnn q (by omega)
      refine ⟨⟨hRR, ?_, ?_⟩, ⟨by omega, by omega⟩, fun j a b => (hnn j (by omega)).trans (hk j a b)⟩
      · rw [hnn 9 (by omega), hnn 10 (by omega), hnn 11 (by omega), hnn 12 (by omega), hnn 13 (by omega), hnn 14 (by omega), hnn 21 (by omega), hnn 22 (by omega), hnn 23 (by omega)]
        exact hO.2.1
      · intro j j0 jl
        rw [hnn 25 (by omega)] at jl
        by_cases hjl : j = l
        · subst hjl
          have e0 := hcs 0 (by omega)
          have e1 := hcs 1 (by omega)
          have e2 := hcs 2 (by omega)
          rw [show (2388 + 4 * j + ((0 : Nat) : Int)) = 2388 + 4 * j by omega, show (2388 + 4 * (i : Int) + ((0 : Nat) : Int)) = 2388 + 4 * (i : Int) by omega] at e0
          rw [show (2388 + 4 * j + ((1 : Nat) : Int)) = 2388 + 4 * j + 1 by omega, show (2388 + 4 * (i : Int) + ((1 : Nat) : Int)) = 2388 + 4 * (i : Int) + 1 by omega] at e1
          rw [show (2388 + 4 * j + ((2 : Nat) : Int)) = 2388 + 4 * j + 2 by omega, show (2388 + 4 * (i : Int) + ((2 : Nat) : Int)) = 2388 + 4 * (i : Int) + 2 by omega] at e2
          rw [e0, e1, e2]
          exact ⟨hpe.1, hpe.2.1, fun q => hss.hP.mpr (hpe.2.2 q)⟩
        · have hj := hO.2.2 j j0 jl
          have hq : ∀ c : Int, 0 ≤ c → c < 4 → N_c4 w (2388 + 4 * l) (2388 + 4 * (i : Int)) 4 (2388 + 4 * j + c).toNat = w (2388 + 4 * j + c).toNat := fun c c0 c4 => by
            rcases (show j < l ∨ l < j by omega) with hh | hh
            · exact hlow _ (by omega)
            · exact hnn _ (by omega)
          have e0 := hq 0 (by omega) (by omega)
          rw [show (2388 + 4 * j + 0 : Int) = 2388 + 4 * j by omega] at e0
          rw [e0, hq 1 (by omega) (by omega), hq 2 (by omega) (by omega)]
          exact ⟨hj.1, hj.2.1, fun q => hss.hP.mpr (hj.2.2 q)⟩
theorem N_as_O {v : Nat → Int} {t : Int} (h : N_O v t) (ht : t ≤ 900000) : N_O (N_as v) t ∧ (∀ j, j ≠ 10 → (j < 15 ∨ j = 21 ∨ j = 22 ∨ j = 23) → N_as v j = v j) := by
  have hc := h.1.C
  obtain ⟨hO, ⟨l0, l1⟩, hk⟩ := N_ab_O h ht (v 25).toNat (by omega)
  have h25 := hk 25 (by omega) (by omega)
  unfold N_as
  generalize (N_ab v (v 25).toNat).2 = w at *
  generalize (N_ab v (v 25).toNat).1 = l at *
  refine ⟨⟨hO.1.rs (show 0 ≤ l ∧ l ≤ 24 by omega), ?_, ?_⟩, fun j a b => by rw [ja_rs_n (by omega)]; exact hk j a (by omega)⟩
  · rw [ja_rs_n (show (9 : Nat) ≠ 25 by omega), ja_rs_n (show (10 : Nat) ≠ 25 by omega), ja_rs_n (show (11 : Nat) ≠ 25 by omega), ja_rs_n (show (12 : Nat) ≠ 25 by omega), ja_rs_n (show (13 : Nat) ≠ 25 by omega), ja_rs_n (show (14 : Nat) ≠ 25 by omega), ja_rs_n (show (21 : Nat) ≠ 25 by omega), ja_rs_n (show (22 : Nat) ≠ 25 by omega), ja_rs_n (show (23 : Nat) ≠ 25 by omega)]
    exact hO.2.1
  · intro j j0 jl
    rw [ja_rs_s] at jl
    have hj := hO.2.2 j j0 (by omega)
    rw [ja_rs_n (by omega), ja_rs_n (by omega), ja_rs_n (by omega)]
    exact ⟨hj.1, hj.2.1, fun q => (N_ss.rf.rs (by omega)).hP.mpr (hj.2.2 q)⟩
