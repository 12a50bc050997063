section
-- a row is what it is below its length
theorem ja_H.ext {D : va_G} {cA : Nat → ClassId} {B n a N : Nat} {lay : ja_Y} {mem : ja_M} {H : Heap} {r : Nat → Option Nat} {f g : Nat → Int} (hH : ja_H D cA B lay (ja_rw mem a f) n H) (hy : lay a = some (.inr (0, N, r))) (h : ∀ j, j < N → f j = g j) : ja_H D cA B lay (ja_rw mem a g) n H := by
  refine ⟨hH.1, fun q e hq => ?_⟩
  obtain ⟨h1, h2, h3⟩ := hH.2 q e hq
  refine ⟨h1, h2, ?_⟩
  by_cases hqa : q = a
  · subst hqa
    rw [hy] at hq
    cases hq
    rw [ja_rw_s] at h3 ⊢
    have key : ∀ F K : Nat → Value, (∀ j, j < N → F j = K j) → arrV (cA 0) N F = arrV (cA 0) N K := fun F K hFK => by
      unfold arrV
      rw [show (fun j : Fin N => F j.val) = (fun j : Fin N => K j.val) from funext fun j => hFK j.val j.isLt]
    have e1 : vp_cell (cA 0) (N, .inl (fun j => ja_I (f j))) = vp_cell (cA 0) (N, .inl (fun j => ja_I (g j))) := by
      rw [vp_cell_i, vp_cell_i]
      exact key _ _ (fun j hj => by rw [h j hj])
    show H[q]? = some (vp_cell (cA 0) (N, .inl (fun j => ja_I (g j))))
    rw [← e1]
    exact h3
  · rw [ja_rw_n hqa] at h3 ⊢
    exact h3
theorem r_ext {C : ja_C} {cells slots n pc a N : Nat} {lay : ja_Y} {mem : ja_M} {r : Nat → Option Nat} {f g : Nat → Int} {ls : List (Option Value)} {st : List Value} (hy : lay a = some (.inr (0, N, r))) (h : ∀ j, j < N → f j = g j) (k : ja_W C cells slots lay (ja_rw mem a g) n pc ls st) : ja_W C cells slots lay (ja_rw mem a f) n pc ls st := by
  obtain ⟨p, l, e, R, s, m, args, below, meth, c, D, cA, B, nL, Q⟩ := C
  intro H locs lsA hH hS hl
  exact k H locs lsA (hH.ext hy h) hS hl
-- time passes
def N_ad (v : Nat → Int) : Nat → (Nat → Int)
  | 0 => v
  | k + 1 => N_ti (N_ad v k)
def N_at (v : Nat → Int) : Nat → Int
  | 0 => 0
  | k + 1 => N_at v k + N_to (N_ad v k)
def N_ag (v : Nat → Int) : Nat → Int
  | 0 => 0
  | k + 1 => N_ag v k + if N_ti (N_ad v k) 27 = 3 then 1 else 0
def N_xg : Nat → Nat → (Nat → Int) → Int
  | 0, _, _ => -1004
  | r + 1, i, v => if N_ti v 27 = 3 then (i : Int) else N_xg r (i + 1) (N_ti v)
def N_xf (x : Int) : Nat → Nat → (Nat → Int) → Int
  | 0, _, _ => -1004
  | r + 1, i, v => if x < N_ti v 11 then (i : Int) else N_xf x r (i + 1) (N_ti v)
theorem N_ad_O {v : Nat → Int} {t : Int} (h : N_O v t) : ∀ k : Nat, t + k ≤ 900001 → N_O (N_ad v k) (t + k)
  | 0, _ => by
    rw [show t + ((0 : Nat) : Int) = t by omega]
    exact h
  | k + 1, hk => by
    have ih := N_ad_O h k (by omega)
    have := N_ti_O ih (by omega)
    rw [show t + ((k + 1 : Nat) : Int) = t + k + 1 by omega]
    exact this
theorem N_to_in {v : Nat → Int} : 0 ≤ N_to v ∧ N_to v ≤ 1 := by
  unfold N_to
  split <;> omega
theorem N_at_in {v : Nat → Int} : ∀ k : Nat, 0 ≤ N_at v k ∧ N_at v k ≤ k
  | 0 => by simp [N_at]
  | k + 1 => by
    have ih := @N_at_in v k
    have := @N_to_in (N_ad v k)
    simp only [N_at]
    omega
theorem N_ag_in {v : Nat → Int} : ∀ k : Nat, 0 ≤ N_ag v k ∧ N_ag v k ≤ k
  | 0 => by simp [N_ag]
  | k + 1 => by
    have ih := @N_ag_in v k
    simp only [N_ag]
    split <;> omega
/-- rows that may have changed behind a prediction: spare, sorted, x -/
def N_gp (m : Nat) (G G' : ja_M) : Prop := ∀ q, q ≠ m + 2 → q ≠ m + 6 → q ≠ m + 7 → G' q = G q
theorem N_ge.gp {m : Nat} {G G' : ja_M} (h : N_ge m G G') : N_gp m G G' := fun q _ a b => h q a b
theorem N_gp.tr {m : Nat} {G G' G'' : ja_M} (h : N_gp m G G') (h2 : N_gp m G' G'') : N_gp m G G'' := fun q a b c => (h2 q a b c).trans (h q a b c)
theorem N_gp.rw2 {m : Nat} {G : ja_M} {f : Nat → Int} : N_gp m G (ja_rw G (m + 2) f) := fun _ a _ _ => ja_rw_n a
def N_pp (lay : ja_Y) (m n : Nat) (G : ja_M) (f : Nat → Int) (r : Option Value) : ja_P := fun v lay' mem' n' => r = v ∧ lay = lay' ∧ n = n' ∧ ∃ G', N_gp m G G' ∧ mem' = ja_rw G' (m + 1) f
-- answers
abbrev N_isF (x : Int) : Prop := 0 ≤ x ∧ x ≤ 999
def N_ou (v : Nat → Int) (k : Int) : Int := if 1 ≤ k ∧ k ≤ 256 then (if v 12 < k then -1004 else N_ol v k) else -1001
def N_ki (v : Nat → Int) (k : Int) : Int := if 1 ≤ k ∧ k ≤ 32 then (if v 11 < k then -1004 else v (2310 + k - 1).toNat) else -1001
def N_ur (v : Nat → Int) (k : Int) : Int := ((N_un (N_rs 1 k 40 0 v).2 (N_ar v * k) (N_ar v).toNat : Nat) : Int)
def N_ps (v : Nat → Int) (r k i p : Int) : Nat → Int
  | 0 => 0
  | j + 1 => (ja_I (N_ps v r k i p j) ^^^ ja_I (if 999 < N_cv v r k i j then 0 else N_wv v (N_cv v r k i j) p + 128)).toInt
def N_ls (v : Nat → Int) (d : Int) : Int := if v 21 = 0 then (if d = 0 then 0 else 1) else (if d = 0 then v 21 else v 11) / (Nat.gcd (v 11).toNat (v 21).toNat : Nat)
theorem N_ur_in {v : Nat → Int} {k : Int} (hS : N_S v) : 0 ≤ N_ur v k ∧ N_ur v k ≤ 36 := by
  have h := @N_un_le (N_rs 1 k 40 0 v).2 (N_ar v * k) (N_ar v).toNat
  have h2 := N_ar_in hS
  unfold N_ur
  omega
-- the slots
def N_kr (g v : Nat → Int) (k : Int) (c : Nat) : Nat → Int := fun j => if (2484 * k).toNat ≤ j ∧ j < (2484 * k).toNat + c then v (j - (2484 * k).toNat) else g j
theorem N_kr_0 {g v : Nat → Int} {k : Int} : N_kr g v k 0 = g := by
  funext j
  unfold N_kr
  rw [if_neg (by omega)]
theorem N_kr_s {g v : Nat → Int} {k : Int} {c : Nat} : ja_rs (N_kr g v k c) ((2484 * k).toNat + c) (v c) = N_kr g v k (c + 1) := by
  funext j
  unfold N_kr ja_rs
  by_cases hj : j = (2484 * k).toNat + c
  · rw [if_pos hj, if_pos (by omega), show j - (2484 * k).toNat = c by omega]
  · rw [if_neg hj]
    dsimp only
    by_cases h1 : (2484 * k).toNat ≤ j ∧ j < (2484 * k).toNat + c
    · rw [if_pos h1, if_pos (by omega)]
    · rw [if_neg h1, if_neg (by omega)]
def N_mix (f g : Nat → Int) (c : Nat) : Nat → Int := fun j => if j < c then f j else g j
theorem N_mix_0 {f g : Nat → Int} : N_mix f g 0 = g := by
  funext j
  unfold N_mix
  rw [if_neg (by omega)]
theorem N_mix_s {f g : Nat → Int} {c : Nat} : ja_rs (N_mix f g c) c (f c) = N_mix f g (c + 1) := by
  funext j
  unfold N_mix ja_rs
  by_cases hj : j = c
  · rw [if_pos hj, if_pos (by omega), hj]
  · rw [if_neg hj]
    dsimp only
    by_cases h1 : j < c
    · rw [if_pos h1, if_pos (by omega)]
    · rw [if_neg h1, if_neg (by omega)]
theorem N_mix_in {f g : Nat → Int} {c j : Nat} (h : j < c) : N_mix f g c j = f j := by
  unfold N_mix
  rw [if_pos h]
end
section
abbrev rm_X9_time : Room := { frames := 0, cells := 0, slots := 0, locals := 0 }
set_option maxRecDepth 100000 in
set_option maxHeartbeats 800000 in
theorem c_X9_time (l : Launch) (D : va_G) (cA : Nat → ClassId) (B : Nat) {lay : ja_Y} {n : Nat} {m : Nat} {G : ja_M} {v : Nat → Int} (hM : ja_LM lay m) (hR : N_R v) : ja_Mt l D cA B yX9_time cX9_time 1 (some .int) rm_X9_time [.ref m] lay (ja_rw G (m + 1) v) n (ja_rd lay (ja_rw G (m + 1) v) n (some (.int (ja_I (v 9))))) := by
  refine ja_enter [some (.ref m)] (by decide) (Nat.le_of_ble_eq_true rfl) (fun q hq => hq) (fun C F Rt GC hnm => ?_)
  have hC := hR.C
  have hS := hR.S
  refine r_aload_n F rfl rfl dX9_time_0 rfl ?_
  refine r_getR F f_X9_7 (hM.1) rfl dX9_time_1 rfl ?_
  refine r_bipush F (by decide) dX9_time_4 rfl ?_
  refine r_iald F (ja_LM_1 hM) (by omega) (by omega) (by decide) dX9_time_6 rfl ?_
  refine r_eqz (z := (v 9)) (by rw [ja_rw_s, show Int.toNat 9 = 9 from rfl]) ?_
  exact r_iret F Rt dX9_time_7 (by decide) ⟨by first | rfl | rw [if_pos (by omega)] | rw [if_neg (by omega)], rfl, rfl, rfl⟩
abbrev rm_X9_outputs : Room := { frames := 0, cells := 0, slots := 0, locals := 0 }
set_option maxRecDepth 100000 in
set_option maxHeartbeats 800000 in
theorem c_X9_outputs (l : Launch) (D : va_G) (cA : Nat → ClassId) (B : Nat) {lay : ja_Y} {n : Nat} {m : Nat} {G : ja_M} {v : Nat → Int} (hM : ja_LM lay m) (hR : N_R v) : ja_Mt l D cA B yX9_outputs cX9_outputs 1 (some .int) rm_X9_outputs [.ref m] lay (ja_rw G (m + 1) v) n (ja_rd lay (ja_rw G (m + 1) v) n (some (.int (ja_I (v 12))))) := by
  refine ja_enter [some (.ref m)] (by decide) (Nat.le_of_ble_eq_true rfl) (fun q hq => hq) (fun C F Rt GC hnm => ?_)
  have hC := hR.C
  have hS := hR.S
  refine r_aload_n F rfl rfl dX9_outputs_0 rfl ?_
  refine r_getR F f_X9_7 (hM.1) rfl dX9_outputs_1 rfl ?_
  refine r_bipush F (by decide) dX9_outputs_4 rfl ?_
  refine r_iald F (ja_LM_1 hM) (by omega) (by omega) (by decide) dX9_outputs_6 rfl ?_
  refine r_eqz (z := (v 12)) (by rw [ja_rw_s, show Int.toNat 12 = 12 from rfl]) ?_
  exact r_iret F Rt dX9_outputs_7 (by decide) ⟨by first | rfl | rw [if_pos (by omega)] | rw [if_neg (by omega)], rfl, rfl, rfl⟩
abbrev rm_X9_transits : Room := { frames := 0, cells := 0, slots := 0, locals := 0 }
set_option maxRecDepth 100000 in
set_option maxHeartbeats 800000 in
theorem c_X9_transits (l : Launch) (D : va_G) (cA : Nat → ClassId) (B : Nat) {lay : ja_Y} {n : Nat} {m : Nat} {G : ja_M} {v : Nat → Int} (hM : ja_LM lay m) (hR : N_R v) : ja_Mt l D cA B yX9_transits cX9_transits 1 (some .int) rm_X9_transits [.ref m] lay (ja_rw G (m + 1) v) n (ja_rd lay (ja_rw G (m + 1) v) n (some (.int (ja_I (v 24))))) := by
  refine ja_enter [some (.ref m)] (by decide) (Nat.le_of_ble_eq_true rfl) (fun q hq => hq) (fun C F Rt GC hnm => ?_)
  have hC := hR.C
  have hS := hR.S
  refine r_aload_n F rfl rfl dX9_transits_0 rfl ?_
  refine r_getR F f_X9_7 (hM.1) rfl dX9_transits_1 rfl ?_
  refine r_bipush F (by decide) dX9_transits_4 rfl ?_
  refine r_iald F (ja_LM_1 hM) (by omega) (by omega) (by decide) dX9_transits_6 rfl ?_
  refine r_eqz (z := (v 24)) (by rw [ja_rw_s, show Int.toNat 24 = 24 from rfl]) ?_
  exact r_iret F Rt dX9_transits_7 (by decide) ⟨by first | rfl | rw [if_pos (by omega)] | rw [if_neg (by omega)], rfl, rfl, rfl⟩
abbrev rm_X9_stretched : Room := { frames := 0, cells := 0, slots := 0, locals := 0 }
set_option maxRecDepth 100000 in
set_option maxHeartbeats 800000 in
theorem c_X9_stretched (l : Launch) (D : va_G) (cA : Nat → ClassId) (B : Nat) {lay : ja_Y} {n : Nat} {m : Nat} {G : ja_M} {v : Nat → Int} (hM : ja_LM lay m) (hR : N_R v) : ja_Mt l D cA B yX9_stretched cX9_stretched 1 (some .int) rm_X9_stretched [.ref m] lay (ja_rw G (m + 1) v) n (ja_rd lay (ja_rw G (m + 1) v) n (some (.int (ja_I (v 15))))) := by
  refine ja_enter [some (.ref m)] (by decide) (Nat.le_of_ble_eq_true rfl) (fun q hq => hq) (fun C F Rt GC hnm => ?_)
  have hC := hR.C
  have hS := hR.S
  refine r_aload_n F rfl rfl dX9_stretched_0 rfl ?_
  refine r_getR F f_X9_7 (hM.1) rfl dX9_stretched_1 rfl ?_
  refine r_bipush F (by decide) dX9_stretched_4 rfl ?_
  refine r_iald F (ja_LM_1 hM) (by omega) (by omega) (by decide) dX9_stretched_6 rfl ?_
  refine r_eqz (z := (v 15)) (by rw [ja_rw_s, show Int.toNat 15 = 15 from rfl]) ?_
  exact r_iret F Rt dX9_stretched_7 (by decide) ⟨by first | rfl | rw [if_pos (by omega)] | rw [if_neg (by omega)], rfl, rfl, rfl⟩
abbrev rm_X9_compressed : Room := { frames := 0, cells := 0, slots := 0, locals := 0 }
set_option maxRecDepth 100000 in
set_option maxHeartbeats 800000 in
theorem c_X9_compressed (l : Launch) (D : va_G) (cA : Nat → ClassId) (B : Nat) {lay : ja_Y} {n : Nat} {m : Nat} {G : ja_M} {v : Nat → Int} (hM : ja_LM lay m) (hR : N_R v) : ja_Mt l D cA B yX9_compressed cX9_compressed 1 (some .int) rm_X9_compressed [.ref m] lay (ja_rw G (m + 1) v) n (ja_rd lay (ja_rw G (m + 1) v) n (some (.int (ja_I (v 16))))) := by
  refine ja_enter [some (.ref m)] (by decide) (Nat.le_of_ble_eq_true rfl) (fun q hq => hq) (fun C F Rt GC hnm => ?_)
  have hC := hR.C
  have hS := hR.S
  refine r_aload_n F rfl rfl dX9_compressed_0 rfl ?_
  refine r_getR F f_X9_7 (hM.1) rfl dX9_compressed_1 rfl ?_
  refine r_bipush F (by decide) dX9_compressed_4 rfl ?_
  refine r_iald F (ja_LM_1 hM) (by omega) (by omega) (by decide) dX9_compressed_6 rfl ?_
  refine r_eqz (z := (v 16)) (by rw [ja_rw_s, show Int.toNat 16 = 16 from rfl]) ?_
  exact r_iret F Rt dX9_compressed_7 (by decide) ⟨by first | rfl | rw [if_pos (by omega)] | rw [if_neg (by omega)], rfl, rfl, rfl⟩
abbrev rm_X9_late : Room := { frames := 0, cells := 0, slots := 0, locals := 0 }
set_option maxRecDepth 100000 in
set_option maxHeartbeats 800000 in
theorem c_X9_late (l : Launch) (D : va_G) (cA : Nat → ClassId) (B : Nat) {lay : ja_Y} {n : Nat} {m : Nat} {G : ja_M} {v : Nat → Int} (hM : ja_LM lay m) (hR : N_R v) : ja_Mt l D cA B yX9_late cX9_late 1 (some .int) rm_X9_late [.ref m] lay (ja_rw G (m + 1) v) n (ja_rd lay (ja_rw G (m + 1) v) n (some (.int (ja_I (v 17))))) := by
  refine ja_enter [some (.ref m)] (by decide) (Nat.le_of_ble_eq_true rfl) (fun q hq => hq) (fun C F Rt GC hnm => ?_)
  have hC := hR.C
  have hS := hR.S
  refine r_aload_n F rfl rfl dX9_late_0 rfl ?_
  refine r_getR F f_X9_7 (hM.1) rfl dX9_late_1 rfl ?_
  refine r_bipush F (by decide) dX9_late_4 rfl ?_
  refine r_iald F (ja_LM_1 hM) (by omega) (by omega) (by decide) dX9_late_6 rfl ?_
  refine r_eqz (z := (v 17)) (by rw [ja_rw_s, show Int.toNat 17 = 17 from rfl]) ?_
  exact r_iret F Rt dX9_late_7 (by decide) ⟨by first | rfl | rw [if_pos (by omega)] | rw [if_neg (by omega)], rfl, rfl, rfl⟩
abbrev rm_X9_duplicates : Room := { frames := 0, cells := 0, slots := 0, locals := 0 }
set_option maxRecDepth 100000 in
set_option maxHeartbeats 800000 in
theorem c_X9_duplicates (l : Launch) (D : va_G) (cA : Nat → ClassId) (B : Nat) {lay : ja_Y} {n : Nat} {m : Nat} {G : ja_M} {v : Nat → Int} (hM : ja_LM lay m) (hR : N_R v) : ja_Mt l D cA B yX9_duplicates cX9_duplicates 1 (some .int) rm_X9_duplicates [.ref m] lay (ja_rw G (m + 1) v) n (ja_rd lay (ja_rw G (m + 1) v) n (some (.int (ja_I (v 18))))) := by
  refine ja_enter [some (.ref m)] (by decide) (Nat.le_of_ble_eq_true rfl) (fun q hq => hq) (fun C F Rt GC hnm => ?_)
  have hC := hR.C
  have hS := hR.S
  refine r_aload_n F rfl rfl dX9_duplicates_0 rfl ?_
  refine r_getR F f_X9_7 (hM.1) rfl dX9_duplicates_1 rfl ?_
  refine r_bipush F (by decide) dX9_duplicates_4 rfl ?_
  refine r_iald F (ja_LM_1 hM) (by omega) (by omega) (by decide) dX9_duplicates_6 rfl ?_
  refine r_eqz (z := (v 18)) (by rw [ja_rw_s, show Int.toNat 18 = 18 from rfl]) ?_
  exact r_iret F Rt dX9_duplicates_7 (by decide) ⟨by first | rfl | rw [if_pos (by omega)] | rw [if_neg (by omega)], rfl, rfl, rfl⟩
abbrev rm_X9_longestGap : Room := { frames := 0, cells := 0, slots := 0, locals := 0 }
set_option maxRecDepth 100000 in
set_option maxHeartbeats 800000 in
theorem c_X9_longestGap (l : Launch) (D : va_G) (cA : Nat → ClassId) (B : Nat) {lay : ja_Y} {n : Nat} {m : Nat} {G : ja_M} {v : Nat → Int} (hM : ja_LM lay m) (hR : N_R v) : ja_Mt l D cA B yX9_longestGap cX9_longestGap 1 (some .int) rm_X9_longestGap [.ref m] lay (ja_rw G (m + 1) v) n (ja_rd lay (ja_rw G (m + 1) v) n (some (.int (ja_I (v 14))))) := by
  refine ja_enter [some (.ref m)] (by decide) (Nat.le_of_ble_eq_true rfl) (fun q hq => hq) (fun C F Rt GC hnm => ?_)
  have hC := hR.C
  have hS := hR.S
  refine r_aload_n F rfl rfl dX9_longestGap_0 rfl ?_
  refine r_getR F f_X9_7 (hM.1) rfl dX9_longestGap_1 rfl ?_
  refine r_bipush F (by decide) dX9_longestGap_4 rfl ?_
  refine r_iald F (ja_LM_1 hM) (by omega) (by omega) (by decide) dX9_longestGap_6 rfl ?_
  refine r_eqz (z := (v 14)) (by rw [ja_rw_s, show Int.toNat 14 = 14 from rfl]) ?_
  exact r_iret F Rt dX9_longestGap_7 (by decide) ⟨by first | rfl | rw [if_pos (by omega)] | rw [if_neg (by omega)], rfl, rfl, rfl⟩
abbrev rm_X9_scheduled : Room := { frames := 0, cells := 0, slots := 0, locals := 0 }
set_option maxRecDepth 100000 in
set_option maxHeartbeats 800000 in
theorem c_X9_scheduled (l : Launch) (D : va_G) (cA : Nat → ClassId) (B : Nat) {lay : ja_Y} {n : Nat} {m : Nat} {G : ja_M} {v : Nat → Int} (hM : ja_LM lay m) (hR : N_R v) : ja_Mt l D cA B yX9_scheduled cX9_scheduled 1 (some .int) rm_X9_scheduled [.ref m] lay (ja_rw G (m + 1) v) n (ja_rd lay (ja_rw G (m + 1) v) n (some (.int (ja_I (v 25))))) := by
  refine ja_enter [some (.ref m)] (by decide) (Nat.le_of_ble_eq_true rfl) (fun q hq => hq) (fun C F Rt GC hnm => ?_)
  have hC := hR.C
  have hS := hR.S
  refine r_aload_n F rfl rfl dX9_scheduled_0 rfl ?_
  refine r_getR F f_X9_7 (hM.1) rfl dX9_scheduled_1 rfl ?_
  refine r_bipush F (by decide) dX9_scheduled_4 rfl ?_
  refine r_iald F (ja_LM_1 hM) (by omega) (by omega) (by decide) dX9_scheduled_6 rfl ?_
  refine r_eqz (z := (v 25)) (by rw [ja_rw_s, show Int.toNat 25 = 25 from rfl]) ?_
  exact r_iret F Rt dX9_scheduled_7 (by decide) ⟨by first | rfl | rw [if_pos (by omega)] | rw [if_neg (by omega)], rfl, rfl, rfl⟩
abbrev rm_X9_start : Room := { frames := 0, cells := 0, slots := 0, locals := 0 }
set_option maxRecDepth 100000 in
set_option maxHeartbeats 800000 in
theorem c_X9_start (l : Launch) (D : va_G) (cA : Nat → ClassId) (B : Nat) {lay : ja_Y} {n : Nat} {m : Nat} {G : ja_M} {v : Nat → Int} (hM : ja_LM lay m) (hR : N_R v) : ja_Mt l D cA B yX9_start cX9_start 1 (some .int) rm_X9_start [.ref m] lay (ja_rw G (m + 1) v) n (ja_rd lay (ja_rw G (m + 1) v) n (some (.int (ja_I (if v 10 < 0 then -1004 else v 10))))) := by
  refine ja_enter [some (.ref m)] (by decide) (Nat.le_of_ble_eq_true rfl) (fun q hq => hq) (fun C F Rt GC hnm => ?_)
  have hC := hR.C
  have hS := hR.S
  refine r_aload_n F rfl rfl dX9_start_0 rfl ?_
  refine r_getR F f_X9_7 (hM.1) rfl dX9_start_1 rfl ?_
  refine r_bipush F (by decide) dX9_start_4 rfl ?_
  refine r_iald F (ja_LM_1 hM) (by omega) (by omega) (by decide) dX9_start_6 rfl ?_
  refine r_eqz (z := (v 10)) (by rw [ja_rw_s, show Int.toNat 10 = 10 from rfl]) ?_
  refine r_if_ge F (tgt := 16) ⟨by omega, by omega⟩ dX9_start_7 rfl (by decide) (fun h_7 => ?_) (fun h_7 => ?_)
  ·
    refine r_aload_n F rfl rfl dX9_start_16 rfl ?_
    refine r_getR F f_X9_7 (hM.1) rfl dX9_start_17 rfl ?_
    refine r_bipush F (by decide) dX9_start_20 rfl ?_
    refine r_iald F (ja_LM_1 hM) (by omega) (by omega) (by decide) dX9_start_22 rfl ?_
    refine r_eqz (z := (v 10)) (by rw [ja_rw_s, show Int.toNat 10 = 10 from rfl]) ?_
    exact r_iret F Rt dX9_start_23 (by decide) ⟨by first | rfl | rw [if_pos (by omega)] | rw [if_neg (by omega)], rfl, rfl, rfl⟩
  ·
    refine r_sipush F (by decide) dX9_start_10 rfl ?_
    refine r_goto F (tgt := 23) dX9_start_13 (by decide) ?_
    exact r_iret F Rt dX9_start_23 (by decide) ⟨by first | rfl | rw [if_pos (by omega)] | rw [if_neg (by omega)], rfl, rfl, rfl⟩
abbrev rm_X9_left : Room := { frames := 0, cells := 0, slots := 0, locals := 0 }
set_option maxRecDepth 100000 in
set_option maxHeartbeats 800000 in
theorem c_X9_left (l : Launch) (D : va_G) (cA : Nat → ClassId) (B : Nat) {lay : ja_Y} {n : Nat} {m : Nat} {G : ja_M} {v : Nat → Int} (hM : ja_LM lay m) (hR : N_R v) : ja_Mt l D cA B yX9_left cX9_left 1 (some .int) rm_X9_left [.ref m] lay (ja_rw G (m + 1) v) n (ja_rd lay (ja_rw G (m + 1) v) n (some (.int (ja_I (v 22 - v 23))))) := by
  refine ja_enter [some (.ref m)] (by decide) (Nat.le_of_ble_eq_true rfl) (fun q hq => hq) (fun C F Rt GC hnm => ?_)
  have hC := hR.C
  have hS := hR.S
  refine r_aload_n F rfl rfl dX9_left_0 rfl ?_
  refine r_getR F f_X9_7 (hM.1) rfl dX9_left_1 rfl ?_
  refine r_bipush F (by decide) dX9_left_4 rfl ?_
  refine r_iald F (ja_LM_1 hM) (by omega) (by omega) (by decide) dX9_left_6 rfl ?_
  refine r_eqz (z := (v 22)) (by rw [ja_rw_s, show Int.toNat 22 = 22 from rfl]) ?_
  refine r_aload_n F rfl rfl dX9_left_7 rfl ?_
  refine r_getR F f_X9_7 (hM.1) rfl dX9_left_8 rfl ?_
  refine r_bipush F (by decide) dX9_left_11 rfl ?_
  refine r_iald F (ja_LM_1 hM) (by omega) (by omega) (by decide) dX9_left_13 rfl ?_
  refine r_eqz (z := (v 23)) (by rw [ja_rw_s, show Int.toNat 23 = 23 from rfl]) ?_
  refine r_isub F dX9_left_14 rfl ?_
  exact r_iret F Rt dX9_left_15 (by decide) ⟨by first | rfl | rw [if_pos (by omega)] | rw [if_neg (by omega)], rfl, rfl, rfl⟩
abbrev rm_X9_next : Room := { frames := 0, cells := 0, slots := 0, locals := 0 }
set_option maxRecDepth 100000 in
set_option maxHeartbeats 800000 in
theorem c_X9_next (l : Launch) (D : va_G) (cA : Nat → ClassId) (B : Nat) {lay : ja_Y} {n : Nat} {m : Nat} {G : ja_M} {v : Nat → Int} (hM : ja_LM lay m) (hR : N_R v) : ja_Mt l D cA B yX9_next cX9_next 1 (some .int) rm_X9_next [.ref m] lay (ja_rw G (m + 1) v) n (ja_rd lay (ja_rw G (m + 1) v) n (some (.int (ja_I (if 999 < v 11 then -1004 else v 11))))) := by
  refine ja_enter [some (.ref m)] (by decide) (Nat.le_of_ble_eq_true rfl) (fun q hq => hq) (fun C F Rt GC hnm => ?_)
  have hC := hR.C
  have hS := hR.S
  refine r_aload_n F rfl rfl dX9_next_0 rfl ?_
  refine r_getR F f_X9_7 (hM.1) rfl dX9_next_1 rfl ?_
  refine r_bipush F (by decide) dX9_next_4 rfl ?_
  refine r_iald F (ja_LM_1 hM) (by omega) (by omega) (by decide) dX9_next_6 rfl ?_
  refine r_eqz (z := (v 11)) (by rw [ja_rw_s, show Int.toNat 11 = 11 from rfl]) ?_
  refine r_sipush F (by decide) dX9_next_7 rfl ?_
  refine r_icmp_le F (tgt := 19) ⟨by omega, by omega⟩ ⟨by omega, by omega⟩ dX9_next_10 rfl (by decide) (fun h_10 => ?_) (fun h_10 => ?_)
  ·
    refine r_aload_n F rfl rfl dX9_next_19 rfl ?_
    refine r_getR F f_X9_7 (hM.1) rfl dX9_next_20 rfl ?_
    refine r_bipush F (by decide) dX9_next_23 rfl ?_
    refine r_iald F (ja_LM_1 hM) (by omega) (by omega) (by decide) dX9_next_25 rfl ?_
    refine r_eqz (z := (v 11)) (by rw [ja_rw_s, show Int.toNat 11 = 11 from rfl]) ?_
    exact r_iret F Rt dX9_next_26 (by decide) ⟨by first | rfl | rw [if_pos (by omega)] | rw [if_neg (by omega)], rfl, rfl, rfl⟩
  ·
    refine r_sipush F (by decide) dX9_next_13 rfl ?_
    refine r_goto F (tgt := 26) dX9_next_16 (by decide) ?_
    exact r_iret F Rt dX9_next_26 (by decide) ⟨by first | rfl | rw [if_pos (by omega)] | rw [if_neg (by omega)], rfl, rfl, rfl⟩
abbrev rm_X9_output : Room := { frames := 1, cells := 0, slots := 0, locals := 22 }
set_option maxRecDepth 100000 in
set_option maxHeartbeats 800000 in
theorem c_X9_output (l : Launch) (D : va_G) (cA : Nat → ClassId) (B : Nat) {lay : ja_Y} {n : Nat} {m : Nat} {G : ja_M} {v : Nat → Int} (hM : ja_LM lay m) {k : Int} (hR : N_R v) (hk : ja_in k) : ja_Mt l D cA B yX9_output cX9_output 2 (some .int) rm_X9_output [.ref m, .int (ja_I k)] lay (ja_rw G (m + 1) v) n (ja_rd lay (ja_rw G (m + 1) v) n (some (.int (ja_I (N_ou v k))))) := by
  refine ja_enter [some (.ref m), some (.int (ja_I k))] (by decide) (Nat.le_of_ble_eq_true rfl) (fun q hq => hq) (fun C F Rt GC hnm => ?_)
  have hC := hR.C
  have hS := hR.S
  obtain ⟨k1_, k2_⟩ := id hk
  refine r_iload_n F rfl rfl dX9_output_0 rfl ?_
  refine r_iconst F dX9_output_1 rfl ?_
  refine r_sipush F (by decide) dX9_output_2 rfl ?_
  refine r_callS F GC (c_X9_in _ _ _ _ ⟨by omega, by omega⟩ ⟨by omega, by omega⟩ ⟨by omega, by omega⟩) s_X9_35 rfl (by decide) (by decide) (Nat.le_of_ble_eq_true rfl) rfl dX9_output_5 rfl (fun v lay' mem' n' hp => ?_)
  obtain ⟨q1, q2, q3, q4⟩ := hp
  subst q1; subst q2; subst q3; subst q4
  refine r_if_ne F (tgt := 15) ja_b_in dX9_output_8 rfl (by decide) (fun h_8 => ?_) (fun h_8 => ?_)
  ·
    have b_8 : (1 ≤ k ∧ k ≤ 256) := ja_b_1 h_8
    refine r_iload_n F rfl rfl dX9_output_15 rfl ?_
    refine r_aload_n F rfl rfl dX9_output_16 rfl ?_
    refine r_getR F f_X9_7 (hM.1) rfl dX9_output_17 rfl ?_
    refine r_bipush F (by decide) dX9_output_20 rfl ?_
    refine r_iald F (ja_LM_1 hM) (by omega) (by omega) (by decide) dX9_output_22 rfl ?_
    refine r_eqz (z := (v 12)) (by rw [ja_rw_s, show Int.toNat 12 = 12 from rfl]) ?_
    refine r_icmp_le F (tgt := 32) ⟨by omega, by omega⟩ ⟨by omega, by omega⟩ dX9_output_23 rfl (by decide) (fun h_23 => ?_) (fun h_23 => ?_)
    ·
      refine r_aload_n F rfl rfl dX9_output_32 rfl ?_
      refine r_iload_n F rfl rfl dX9_output_33 rfl ?_
      refine r_callV F GC (c_X9_old _ _ _ _ hM hR ⟨by omega, by omega⟩) v_X9_123 rfl (hM.1) rfl (by decide) (by decide) (Nat.le_of_ble_eq_true rfl) rfl dX9_output_34 rfl (fun v lay' mem' n' hp => ?_)
      obtain ⟨q1, q2, q3, q4⟩ := hp
      subst q1; subst q2; subst q3; subst q4
      exact r_iret F Rt dX9_output_37 (by decide) ⟨by rw [N_ou, if_pos b_8]; first | rw [if_pos (by omega)] | rw [if_neg (by omega)], rfl, rfl, rfl⟩
    ·
      refine r_sipush F (by decide) dX9_output_26 rfl ?_
      refine r_goto F (tgt := 37) dX9_output_29 (by decide) ?_
      exact r_iret F Rt dX9_output_37 (by decide) ⟨by rw [N_ou, if_pos b_8]; first | rw [if_pos (by omega)] | rw [if_neg (by omega)], rfl, rfl, rfl⟩
  ·
    have b_8 : ¬ (1 ≤ k ∧ k ≤ 256) := ja_b_0.mp h_8
    refine r_sipush F (by decide) dX9_output_11 rfl ?_
    exact r_iret F Rt dX9_output_14 (by decide) ⟨by rw [N_ou, if_neg b_8], rfl, rfl, rfl⟩
abbrev rm_X9_kind : Room := { frames := 1, cells := 0, slots := 0, locals := 22 }
set_option maxRecDepth 100000 in
set_option maxHeartbeats 800000 in
theorem c_X9_kind (l : Launch) (D : va_G) (cA : Nat → ClassId) (B : Nat) {lay : ja_Y} {n : Nat} {m : Nat} {G : ja_M} {v : Nat → Int} (hM : ja_LM lay m) {k : Int} (hR : N_R v) (hk : ja_in k) : ja_Mt l D cA B yX9_kind cX9_kind 2 (some .int) rm_X9_kind [.ref m, .int (ja_I k)] lay (ja_rw G (m + 1) v) n (ja_rd lay (ja_rw G (m + 1) v) n (some (.int (ja_I (N_ki v k))))) := by
  refine ja_enter [some (.ref m), some (.int (ja_I k))] (by decide) (Nat.le_of_ble_eq_true rfl) (fun q hq => hq) (fun C F Rt GC hnm => ?_)
  have hC := hR.C
  have hS := hR.S
  obtain ⟨k1_, k2_⟩ := id hk
  refine r_iload_n F rfl rfl dX9_kind_0 rfl ?_
  refine r_iconst F dX9_kind_1 rfl ?_
  refine r_bipush F (by decide) dX9_kind_2 rfl ?_
  refine r_callS F GC (c_X9_in _ _ _ _ ⟨by omega, by omega⟩ ⟨by omega, by omega⟩ ⟨by omega, by omega⟩) s_X9_35 rfl (by decide) (by decide) (Nat.le_of_ble_eq_true rfl) rfl dX9_kind_4 rfl (fun v lay' mem' n' hp => ?_)
  obtain ⟨q1, q2, q3, q4⟩ := hp
  subst q1; subst q2; subst q3; subst q4
  refine r_if_ne F (tgt := 14) ja_b_in dX9_kind_7 rfl (by decide) (fun h_7 => ?_) (fun h_7 => ?_)
  ·
    have b_7 : (1 ≤ k ∧ k ≤ 32) := ja_b_1 h_7
    refine r_iload_n F rfl rfl dX9_kind_14 rfl ?_
    refine r_aload_n F rfl rfl dX9_kind_15 rfl ?_
    refine r_getR F f_X9_7 (hM.1) rfl dX9_kind_16 rfl ?_
    refine r_bipush F (by decide) dX9_kind_19 rfl ?_
    refine r_iald F (ja_LM_1 hM) (by omega) (by omega) (by decide) dX9_kind_21 rfl ?_
    refine r_eqz (z := (v 11)) (by rw [ja_rw_s, show Int.toNat 11 = 11 from rfl]) ?_
    refine r_icmp_le F (tgt := 31) ⟨by omega, by omega⟩ ⟨by omega, by omega⟩ dX9_kind_22 rfl (by decide) (fun h_22 => ?_) (fun h_22 => ?_)
    ·
      refine r_aload_n F rfl rfl dX9_kind_31 rfl ?_
      refine r_getR F f_X9_7 (hM.1) rfl dX9_kind_32 rfl ?_
      refine r_sipush F (by decide) dX9_kind_35 rfl ?_
      refine r_iload_n F rfl rfl dX9_kind_38 rfl ?_
      refine r_iadd F dX9_kind_39 rfl ?_
      refine r_iconst F dX9_kind_40 rfl ?_
      refine r_isub F dX9_kind_41 rfl ?_
      refine r_iald F (ja_LM_1 hM) (by omega) (by omega) (by decide) dX9_kind_42 rfl ?_
      refine r_eqz (z := (v (Int.toNat ((2310 + k) - 1)))) (by rw [ja_rw_s]) ?_
      exact r_iret F Rt dX9_kind_43 (by decide) ⟨by rw [N_ki, if_pos b_7]; first | rw [if_pos (by omega)] | rw [if_neg (by omega)], rfl, rfl, rfl⟩
    ·
      refine r_sipush F (by decide) dX9_kind_25 rfl ?_
      refine r_goto F (tgt := 43) dX9_kind_28 (by decide) ?_
      exact r_iret F Rt dX9_kind_43 (by decide) ⟨by rw [N_ki, if_pos b_7]; first | rw [if_pos (by omega)] | rw [if_neg (by omega)], rfl, rfl, rfl⟩
  ·
    have b_7 : ¬ (1 ≤ k ∧ k ≤ 32) := ja_b_0.mp h_7
    refine r_sipush F (by decide) dX9_kind_10 rfl ?_
    exact r_iret F Rt dX9_kind_13 (by decide) ⟨by rw [N_ki, if_neg b_7], rfl, rfl, rfl⟩
abbrev rm_X9_state : Room := { frames := 2, cells := 0, slots := 0, locals := 42 }
set_option maxRecDepth 100000 in
set_option maxHeartbeats 800000 in
theorem c_X9_state (l : Launch) (D : va_G) (cA : Nat → ClassId) (B : Nat) {lay : ja_Y} {n : Nat} {m : Nat} {G : ja_M} {v : Nat → Int} (hM : ja_LM lay m) {x : Int} (hR : N_R v) (hx : ja_in x) : ja_Mt l D cA B yX9_state cX9_state 2 (some .int) rm_X9_state [.ref m, .int (ja_I x)] lay (ja_rw G (m + 1) v) n (ja_rd lay (ja_rw G (m + 1) v) n (some (.int (ja_I (if N_isF x then v (30 + x).toNat else -1001))))) := by
  refine ja_enter [some (.ref m), some (.int (ja_I x))] (by decide) (Nat.le_of_ble_eq_true rfl) (fun q hq => hq) (fun C F Rt GC hnm => ?_)
  have hC := hR.C
  have hS := hR.S
  obtain ⟨x1_, x2_⟩ := id hx
  refine r_iload_n F rfl rfl dX9_state_0 rfl ?_
  refine r_callS F GC (c_X9_isFrame _ _ _ _ ⟨by omega, by omega⟩) s_X9_84 rfl (by decide) (by decide) (Nat.le_of_ble_eq_true rfl) rfl dX9_state_1 rfl (fun v lay' mem' n' hp => ?_)
  obtain ⟨q1, q2, q3, q4⟩ := hp
  subst q1; subst q2; subst q3; subst q4
  refine r_if_eq F (tgt := 19) ja_b_in dX9_state_4 rfl (by decide) (fun h_4 => ?_) (fun h_4 => ?_)
  ·
    have b_4 : ¬ (0 ≤ x ∧ x ≤ 999) := ja_b_0.mp h_4
    refine r_sipush F (by decide) dX9_state_19 rfl ?_
    exact r_iret F Rt dX9_state_22 (by decide) ⟨by first | rw [if_pos b_4] | rw [if_neg b_4], rfl, rfl, rfl⟩
  ·
    have b_4 : (0 ≤ x ∧ x ≤ 999) := ja_b_1 h_4
    refine r_aload_n F rfl rfl dX9_state_7 rfl ?_
    refine r_getR F f_X9_7 (hM.1) rfl dX9_state_8 rfl ?_
    refine r_bipush F (by decide) dX9_state_11 rfl ?_
    refine r_iload_n F rfl rfl dX9_state_13 rfl ?_
    refine r_iadd F dX9_state_14 rfl ?_
    refine r_iald F (ja_LM_1 hM) (by omega) (by omega) (by decide) dX9_state_15 rfl ?_
    refine r_eqz (z := (v (Int.toNat (30 + x)))) (by rw [ja_rw_s]) ?_
    refine r_goto F (tgt := 22) dX9_state_16 (by decide) ?_
    exact r_iret F Rt dX9_state_22 (by decide) ⟨by first | rw [if_pos b_4] | rw [if_neg b_4], rfl, rfl, rfl⟩
abbrev rm_X9_sample : Room := { frames := 2, cells := 0, slots := 0, locals := 42 }
set_option maxRecDepth 100000 in
set_option maxHeartbeats 800000 in
theorem c_X9_sample (l : Launch) (D : va_G) (cA : Nat → ClassId) (B : Nat) {lay : ja_Y} {n : Nat} {m : Nat} {G : ja_M} {v : Nat → Int} (hM : ja_LM lay m) {x j : Int} (hR : N_R v) (hx : ja_in x) (hj : ja_in j) : ja_Mt l D cA B yX9_sample cX9_sample 3 (some .int) rm_X9_sample [.ref m, .int (ja_I x), .int (ja_I j)] lay (ja_rw G (m + 1) v) n (ja_rd lay (ja_rw G (m + 1) v) n (some (.int (ja_I (if N_isF x ∧ 0 ≤ j ∧ j ≤ v 0 - 1 then N_wv v x j else -1001))))) := by
  refine ja_enter [some (.ref m), some (.int (ja_I x)), some (.int (ja_I j))] (by decide) (Nat.le_of_ble_eq_true rfl) (fun q hq => hq) (fun C F Rt GC hnm => ?_)
  have hC := hR.C
  have hS := hR.S
  obtain ⟨x1_, x2_⟩ := id hx
  obtain ⟨j1_, j2_⟩ := id hj
  refine r_iload_n F rfl rfl dX9_sample_0 rfl ?_
  refine r_callS F GC (c_X9_isFrame _ _ _ _ ⟨by omega, by omega⟩) s_X9_84 rfl (by decide) (by decide) (Nat.le_of_ble_eq_true rfl) rfl dX9_sample_1 rfl (fun v lay' mem' n' hp => ?_)
  obtain ⟨q1, q2, q3, q4⟩ := hp
  subst q1; subst q2; subst q3; subst q4
  refine r_if_eq F (tgt := 32) ja_b_in dX9_sample_4 rfl (by decide) (fun h_4 => ?_) (fun h_4 => ?_)
  ·
    have b_4 : ¬ (0 ≤ x ∧ x ≤ 999) := ja_b_0.mp h_4
    refine r_sipush F (by decide) dX9_sample_32 rfl ?_
    exact r_iret F Rt dX9_sample_35 (by decide) ⟨by first | rw [if_neg (fun q => b_4 q.1)] | rw [if_neg (fun q => b_20 q.2)] | rw [if_pos ⟨b_4, b_20⟩], rfl, rfl, rfl⟩
  ·
    have b_4 : (0 ≤ x ∧ x ≤ 999) := ja_b_1 h_4
    refine r_iload_n F rfl rfl dX9_sample_7 rfl ?_
    refine r_iconst F dX9_sample_8 rfl ?_
    refine r_aload_n F rfl rfl dX9_sample_9 rfl ?_
    refine r_getR F f_X9_7 (hM.1) rfl dX9_sample_10 rfl ?_
    refine r_iconst F dX9_sample_13 rfl ?_
    refine r_iald F (ja_LM_1 hM) (by omega) (by omega) (by decide) dX9_sample_14 rfl ?_
    refine r_eqz (z := (v 0)) (by rw [ja_rw_s, show Int.toNat 0 = 0 from rfl]) ?_
    refine r_iconst F dX9_sample_15 rfl ?_
    refine r_isub F dX9_sample_16 rfl ?_
    refine r_callS F GC (c_X9_in _ _ _ _ ⟨by omega, by omega⟩ ⟨by omega, by omega⟩ ⟨by omega, by omega⟩) s_X9_35 rfl (by decide) (by decide) (Nat.le_of_ble_eq_true rfl) rfl dX9_sample_17 rfl (fun v lay' mem' n' hp => ?_)
    obtain ⟨q1, q2, q3, q4⟩ := hp
    subst q1; subst q2; subst q3; subst q4
    refine r_if_eq F (tgt := 32) ja_b_in dX9_sample_20 rfl (by decide) (fun h_20 => ?_) (fun h_20 => ?_)
    ·
      have b_20 : ¬ (0 ≤ j ∧ j ≤ ((v 0) - 1)) := ja_b_0.mp h_20
      refine r_sipush F (by decide) dX9_sample_32 rfl ?_
      exact r_iret F Rt dX9_sample_35 (by decide) ⟨by first | rw [if_neg (fun q => b_4 q.1)] | rw [if_neg (fun q => b_20 q.2)] | rw [if_pos ⟨b_4, b_20⟩], rfl, rfl, rfl⟩
    ·
      have b_20 : (0 ≤ j ∧ j ≤ ((v 0) - 1)) := ja_b_1 h_20
      refine r_aload_n F rfl rfl dX9_sample_23 rfl ?_
      refine r_iload_n F rfl rfl dX9_sample_24 rfl ?_
      refine r_iload_n F rfl rfl dX9_sample_25 rfl ?_
      refine r_callV F GC (c_X9_sampleOf _ _ _ _ hM hS ⟨by omega, by omega⟩ ⟨by omega, by omega⟩) v_X9_104 rfl (hM.1) rfl (by decide) (by decide) (Nat.le_of_ble_eq_true rfl) rfl dX9_sample_26 rfl (fun v lay' mem' n' hp => ?_)
      obtain ⟨q1, q2, q3, q4⟩ := hp
      subst q1; subst q2; subst q3; subst q4
      refine r_goto F (tgt := 35) dX9_sample_29 (by decide) ?_
      exact r_iret F Rt dX9_sample_35 (by decide) ⟨by first | rw [if_neg (fun q => b_4 q.1)] | rw [if_neg (fun q => b_20 q.2)] | rw [if_pos ⟨b_4, b_20⟩], rfl, rfl, rfl⟩
abbrev rm_X9_missing : Room := { frames := 3, cells := 0, slots := 0, locals := 69 }
set_option maxRecDepth 100000 in
set_option maxHeartbeats 800000 in
theorem c_X9_missing (l : Launch) (D : va_G) (cA : Nat → ClassId) (B : Nat) {lay : ja_Y} {n : Nat} {m : Nat} {G : ja_M} {v : Nat → Int} (hM : ja_LM lay m) {r k i : Int} (hR : N_R v) (h01 : 0 ≤ r ∧ r ≤ 1) (hk : ja_in k) (hi : ja_in i) : ja_Mt l D cA B yX9_missing cX9_missing 4 (some .int) rm_X9_missing [.ref m, .int (ja_I r), .int (ja_I k), .int (ja_I i)] lay (ja_rw G (m + 1) v) n (ja_rd lay (ja_rw G (m + 1) v) n (some (.int (ja_I (if N_hP v r k i then N_mi v r k i (N_cs v r).toNat else -1001))))) := by
  refine ja_enter [some (.ref m), some (.int (ja_I r)), some (.int (ja_I k)), some (.int (ja_I i))] (by decide) (Nat.le_of_ble_eq_true rfl) (fun q hq => hq) (fun C F Rt GC hnm => ?_)
  have hC := hR.C
  have hS := hR.S
  obtain ⟨k1_, k2_⟩ := id hk
  obtain ⟨i1_, i2_⟩ := id hi
  refine r_aload_n F rfl rfl dX9_missing_0 rfl ?_
  refine r_iload_n F rfl rfl dX9_missing_1 rfl ?_
  refine r_iload_n F rfl rfl dX9_missing_2 rfl ?_
  refine r_iload_n F rfl rfl dX9_missing_3 rfl ?_
  refine r_callV F GC (c_X9_isPacket _ _ _ _ hM hS h01 hk hi) v_X9_91 rfl (hM.1) rfl (by decide) (by decide) (Nat.le_of_ble_eq_true rfl) rfl dX9_missing_4 rfl (fun v lay' mem' n' hp => ?_)
  obtain ⟨q1, q2, q3, q4⟩ := hp
  subst q1; subst q2; subst q3; subst q4
  refine r_if_eq F (tgt := 20) ja_b_in dX9_missing_7 rfl (by decide) (fun h_7 => ?_) (fun h_7 => ?_)
  ·
    have b_7 : ¬ (N_hP v r k i) := ja_b_0.mp h_7
    refine r_sipush F (by decide) dX9_missing_20 rfl ?_
    exact r_iret F Rt dX9_missing_23 (by decide) ⟨by first | rw [if_pos b_7] | rw [if_neg b_7], rfl, rfl, rfl⟩
  ·
    have b_7 : (N_hP v r k i) := ja_b_1 h_7
    refine r_aload_n F rfl rfl dX9_missing_10 rfl ?_
    refine r_iload_n F rfl rfl dX9_missing_11 rfl ?_
    refine r_iload_n F rfl rfl dX9_missing_12 rfl ?_
    refine r_iload_n F rfl rfl dX9_missing_13 rfl ?_
    refine r_callV F GC (c_X9_missingOf _ _ _ _ hM hR h01 b_7.1 (N_hP_6 hS b_7)) v_X9_63 rfl (hM.1) rfl (by decide) (by decide) (Nat.le_of_ble_eq_true rfl) rfl dX9_missing_14 rfl (fun v lay' mem' n' hp => ?_)
    obtain ⟨q1, q2, q3, q4⟩ := hp
    subst q1; subst q2; subst q3; subst q4
    refine r_goto F (tgt := 23) dX9_missing_17 (by decide) ?_
    exact r_iret F Rt dX9_missing_23 (by decide) ⟨by first | rw [if_pos b_7] | rw [if_neg b_7], rfl, rfl, rfl⟩
abbrev rm_X9_target : Room := { frames := 2, cells := 0, slots := 0, locals := 44 }
set_option maxRecDepth 100000 in
set_option maxHeartbeats 800000 in
theorem c_X9_target (l : Launch) (D : va_G) (cA : Nat → ClassId) (B : Nat) {lay : ja_Y} {n : Nat} {m : Nat} {G : ja_M} {v : Nat → Int} (hM : ja_LM lay m) (hR : N_R v) : ja_Mt l D cA B yX9_target cX9_target 1 (some .int) rm_X9_target [.ref m] lay (ja_rw G (m + 1) v) n (N_pg lay m n G (v) (some (.int (ja_I (N_tg v))))) := by
  refine ja_enter [some (.ref m)] (by decide) (Nat.le_of_ble_eq_true rfl) (fun q hq => hq) (fun C F Rt GC hnm => ?_)
  refine r_aload_n F rfl rfl dX9_target_0 rfl ?_
  refine r_callV F GC (c_X9_targetNow _ _ _ _ hM hR) v_X9_110 rfl (hM.1) rfl (by decide) (by decide) (Nat.le_of_ble_eq_true rfl) rfl dX9_target_1 rfl (fun v lay' mem' n' hp => ?_)
  obtain ⟨q1, q2, q3, G1, hG1, q4⟩ := hp
  subst q1; subst q2; subst q3; subst q4
  exact r_iret F Rt dX9_target_4 (by decide) ⟨rfl, rfl, rfl, G1, hG1.ge, rfl⟩
abbrev rm_X9_level : Room := { frames := 2, cells := 0, slots := 0, locals := 43 }
set_option maxRecDepth 100000 in
set_option maxHeartbeats 800000 in
theorem c_X9_level (l : Launch) (D : va_G) (cA : Nat → ClassId) (B : Nat) {lay : ja_Y} {n : Nat} {m : Nat} {G : ja_M} {v : Nat → Int} (hM : ja_LM lay m) (hR : N_R v) : ja_Mt l D cA B yX9_level cX9_level 1 (some .int) rm_X9_level [.ref m] lay (ja_rw G (m + 1) v) n (ja_rd lay (ja_rw G (m + 1) v) n (some (.int (ja_I (if 999 < v 11 then 0 else N_lv v (v 11)))))) := by
  refine ja_enter [some (.ref m)] (by decide) (Nat.le_of_ble_eq_true rfl) (fun q hq => hq) (fun C F Rt GC hnm => ?_)
  have hC := hR.C
  have hS := hR.S
  refine r_aload_n F rfl rfl dX9_level_0 rfl ?_
  refine r_getR F f_X9_7 (hM.1) rfl dX9_level_1 rfl ?_
  refine r_bipush F (by decide) dX9_level_4 rfl ?_
  refine r_iald F (ja_LM_1 hM) (by omega) (by omega) (by decide) dX9_level_6 rfl ?_
  refine r_eqz (z := (v 11)) (by rw [ja_rw_s, show Int.toNat 11 = 11 from rfl]) ?_
  refine r_sipush F (by decide) dX9_level_7 rfl ?_
  refine r_icmp_le F (tgt := 17) ⟨by omega, by omega⟩ ⟨by omega, by omega⟩ dX9_level_10 rfl (by decide) (fun h_10 => ?_) (fun h_10 => ?_)
  ·
    refine r_aload_n F rfl rfl dX9_level_17 rfl ?_
    refine r_aload_n F rfl rfl dX9_level_18 rfl ?_
    refine r_getR F f_X9_7 (hM.1) rfl dX9_level_19 rfl ?_
    refine r_bipush F (by decide) dX9_level_22 rfl ?_
    refine r_iald F (ja_LM_1 hM) (by omega) (by omega) (by decide) dX9_level_24 rfl ?_
    refine r_eqz (z := (v 11)) (by rw [ja_rw_s, show Int.toNat 11 = 11 from rfl]) ?_
    refine r_callV F GC (c_X9_levelFrom _ _ _ _ hM hR ⟨by omega, by omega⟩) v_X9_107 rfl (hM.1) rfl (by decide) (by decide) (Nat.le_of_ble_eq_true rfl) rfl dX9_level_25 rfl (fun v lay' mem' n' hp => ?_)
    obtain ⟨q1, q2, q3, q4⟩ := hp
    subst q1; subst q2; subst q3; subst q4
    exact r_iret F Rt dX9_level_28 (by decide) ⟨by first | rfl | rw [if_pos (by omega)] | rw [if_neg (by omega)], rfl, rfl, rfl⟩
  ·
    refine r_iconst F dX9_level_13 rfl ?_
    refine r_goto F (tgt := 28) dX9_level_14 (by decide) ?_
    exact r_iret F Rt dX9_level_28 (by decide) ⟨by first | rfl | rw [if_pos (by omega)] | rw [if_neg (by omega)], rfl, rfl, rfl⟩
abbrev rm_X9_taken : Room := { frames := 1, cells := 0, slots := 0, locals := 22 }
set_option maxRecDepth 100000 in
set_option maxHeartbeats 800000 in
theorem c_X9_taken (l : Launch) (D : va_G) (cA : Nat → ClassId) (B : Nat) {lay : ja_Y} {n : Nat} {m : Nat} {G : ja_M} {v : Nat → Int} (hM : ja_LM lay m) {k : Int} (hR : N_R v) (hk : ja_in k) : ja_Mt l D cA B yX9_taken cX9_taken 2 (some .int) rm_X9_taken [.ref m, .int (ja_I k)] lay (ja_rw G (m + 1) v) n (ja_rd lay (ja_rw G (m + 1) v) n (some (.int (ja_I (if 1 ≤ k ∧ k ≤ 3 then v (18 + k).toNat else -1001))))) := by
  refine ja_enter [some (.ref m), some (.int (ja_I k))] (by decide) (Nat.le_of_ble_eq_true rfl) (fun q hq => hq) (fun C F Rt GC hnm => ?_)
  have hC := hR.C
  have hS := hR.S
  obtain ⟨k1_, k2_⟩ := id hk
  refine r_iload_n F rfl rfl dX9_taken_0 rfl ?_
  refine r_iconst F dX9_taken_1 rfl ?_
  refine r_iconst F dX9_taken_2 rfl ?_
  refine r_callS F GC (c_X9_in _ _ _ _ ⟨by omega, by omega⟩ ⟨by omega, by omega⟩ ⟨by omega, by omega⟩) s_X9_35 rfl (by decide) (by decide) (Nat.le_of_ble_eq_true rfl) rfl dX9_taken_3 rfl (fun v lay' mem' n' hp => ?_)
  obtain ⟨q1, q2, q3, q4⟩ := hp
  subst q1; subst q2; subst q3; subst q4
  refine r_if_eq F (tgt := 21) ja_b_in dX9_taken_6 rfl (by decide) (fun h_6 => ?_) (fun h_6 => ?_)
  ·
    have b_6 : ¬ (1 ≤ k ∧ k ≤ 3) := ja_b_0.mp h_6
    refine r_sipush F (by decide) dX9_taken_21 rfl ?_
    exact r_iret F Rt dX9_taken_24 (by decide) ⟨by first | rw [if_pos b_6] | rw [if_neg b_6], rfl, rfl, rfl⟩
  ·
    have b_6 : (1 ≤ k ∧ k ≤ 3) := ja_b_1 h_6
    refine r_aload_n F rfl rfl dX9_taken_9 rfl ?_
    refine r_getR F f_X9_7 (hM.1) rfl dX9_taken_10 rfl ?_
    refine r_bipush F (by decide) dX9_taken_13 rfl ?_
    refine r_iload_n F rfl rfl dX9_taken_15 rfl ?_
    refine r_iadd F dX9_taken_16 rfl ?_
    refine r_iald F (ja_LM_1 hM) (by omega) (by omega) (by decide) dX9_taken_17 rfl ?_
    refine r_eqz (z := (v (Int.toNat (18 + k)))) (by rw [ja_rw_s]) ?_
    refine r_goto F (tgt := 24) dX9_taken_18 (by decide) ?_
    exact r_iret F Rt dX9_taken_24 (by decide) ⟨by first | rw [if_pos b_6] | rw [if_neg b_6], rfl, rfl, rfl⟩
abbrev rm_X9_transit : Room := { frames := 1, cells := 0, slots := 0, locals := 22 }
set_option maxRecDepth 100000 in
set_option maxHeartbeats 800000 in
theorem c_X9_transit (l : Launch) (D : va_G) (cA : Nat → ClassId) (B : Nat) {lay : ja_Y} {n : Nat} {m : Nat} {G : ja_M} {v : Nat → Int} (hM : ja_LM lay m) {k : Int} (hR : N_R v) (hk : ja_in k) : ja_Mt l D cA B yX9_transit cX9_transit 2 (some .int) rm_X9_transit [.ref m, .int (ja_I k)] lay (ja_rw G (m + 1) v) n (N_pg lay m n G (v) (some (.int (ja_I (if 0 ≤ k ∧ k ≤ v 24 - 1 then (if N_so v (v 24).toNat k.toNat < -999 then -999 else N_so v (v 24).toNat k.toNat) else -1001))))) := by
  refine ja_enter [some (.ref m), some (.int (ja_I k))] (by decide) (Nat.le_of_ble_eq_true rfl) (fun q hq => hq) (fun C F Rt GC hnm => ?_)
  have hC := hR.C
  have hS := hR.S
  obtain ⟨k1_, k2_⟩ := id hk
  refine r_iload_n F rfl rfl dX9_transit_0 rfl ?_
  refine r_iconst F dX9_transit_1 rfl ?_
  refine r_aload_n F rfl rfl dX9_transit_2 rfl ?_
  refine r_getR F f_X9_7 (hM.1) rfl dX9_transit_3 rfl ?_
  refine r_bipush F (by decide) dX9_transit_6 rfl ?_
  refine r_iald F (ja_LM_1 hM) (by omega) (by omega) (by decide) dX9_transit_8 rfl ?_
  refine r_eqz (z := (v 24)) (by rw [ja_rw_s, show Int.toNat 24 = 24 from rfl]) ?_
  refine r_iconst F dX9_transit_9 rfl ?_
  refine r_isub F dX9_transit_10 rfl ?_
  refine r_callS F GC (c_X9_in _ _ _ _ ⟨by omega, by omega⟩ ⟨by omega, by omega⟩ ⟨by omega, by omega⟩) s_X9_35 rfl (by decide) (by decide) (Nat.le_of_ble_eq_true rfl) rfl dX9_transit_11 rfl (fun v lay' mem' n' hp => ?_)
  obtain ⟨q1, q2, q3, q4⟩ := hp
  subst q1; subst q2; subst q3; subst q4
  refine r_if_ne F (tgt := 21) ja_b_in dX9_transit_14 rfl (by decide) (fun h_14 => ?_) (fun h_14 => ?_)
  ·
    have b_14 : (0 ≤ k ∧ k ≤ ((v 24) - 1)) := ja_b_1 h_14
    refine r_aload_n F rfl rfl dX9_transit_21 rfl ?_
    refine r_callV F GC (c_X9_sorts _ _ _ _ hM hR) v_X9_98 rfl (hM.1) rfl (by decide) (by decide) (Nat.le_of_ble_eq_true rfl) rfl dX9_transit_22 rfl (fun v lay' mem' n' hp => ?_)
    obtain ⟨q1, q2, q3, G1, hG1, q4, hso⟩ := hp
    subst q1; subst q2; subst q3; subst q4
    have hsr := N_so_in hR (v 24).toNat k.toNat (by omega)
    obtain ⟨hsr1, hsr2⟩ := hsr
    refine r_aload_n F rfl rfl dX9_transit_25 rfl ?_
    refine r_getR F f_X9_26 (hM.1) rfl dX9_transit_26 rfl ?_
    refine r_iload_n F rfl rfl dX9_transit_29 rfl ?_
    refine r_iald F (ja_LM_6 hM) (by omega) (by omega) (by decide) dX9_transit_30 rfl ?_
    refine r_eqz (z := (N_so v (v 24).toNat k.toNat)) (by rw [ja_rw_n (by omega)]; exact hso _ (by omega)) ?_
    refine r_sipush F (by decide) dX9_transit_31 rfl ?_
    refine r_icmp_ge F (tgt := 43) ⟨by omega, by omega⟩ ⟨by omega, by omega⟩ dX9_transit_34 rfl (by decide) (fun h_34 => ?_) (fun h_34 => ?_)
    ·
      refine r_aload_n F rfl rfl dX9_transit_43 rfl ?_
      refine r_getR F f_X9_26 (hM.1) rfl dX9_transit_44 rfl ?_
      refine r_iload_n F rfl rfl dX9_transit_47 rfl ?_
      refine r_iald F (ja_LM_6 hM) (by omega) (by omega) (by decide) dX9_transit_48 rfl ?_
      refine r_eqz (z := (N_so v (v 24).toNat k.toNat)) (by rw [ja_rw_n (by omega)]; exact hso _ (by omega)) ?_
      exact r_iret F Rt dX9_transit_49 (by decide) ⟨by rw [if_pos b_14]; first | rw [if_pos (by omega)] | rw [if_neg (by omega)], rfl, rfl, G1, hG1.ge, rfl⟩
    ·
      refine r_sipush F (by decide) dX9_transit_37 rfl ?_
      refine r_goto F (tgt := 49) dX9_transit_40 (by decide) ?_
      exact r_iret F Rt dX9_transit_49 (by decide) ⟨by rw [if_pos b_14]; first | rw [if_pos (by omega)] | rw [if_neg (by omega)], rfl, rfl, G1, hG1.ge, rfl⟩
  ·
    have b_14 : ¬ (0 ≤ k ∧ k ≤ ((v 24) - 1)) := ja_b_0.mp h_14
    refine r_sipush F (by decide) dX9_transit_17 rfl ?_
    exact r_iret F Rt dX9_transit_20 (by decide) ⟨by rw [if_neg b_14], rfl, rfl, G, N_ge.rf, rfl⟩
abbrev rm_X9_setFrame : Room := { frames := 1, cells := 0, slots := 0, locals := 23 }
set_option maxRecDepth 100000 in
set_option maxHeartbeats 800000 in
theorem c_X9_setFrame (l : Launch) (D : va_G) (cA : Nat → ClassId) (B : Nat) {lay : ja_Y} {n : Nat} {m : Nat} {G : ja_M} {v : Nat → Int} (hM : ja_LM lay m) {k : Int} (hR : N_R v) (hk : ja_in k) : ja_Mt l D cA B yX9_setFrame cX9_setFrame 2 (some .int) rm_X9_setFrame [.ref m, .int (ja_I k)] lay (ja_rw G (m + 1) v) n (ja_rd lay (ja_rw G (m + 1) (if (4 ≤ k ∧ k ≤ 16) ∧ ¬ N_bg v then ja_rs v 0 k else v)) n (some (.int (ja_I (if 4 ≤ k ∧ k ≤ 16 then (if N_bg v then -1003 else v 0) else -1001))))) := by
  refine ja_enter [some (.ref m), some (.int (ja_I k))] (by decide) (Nat.le_of_ble_eq_true rfl) (fun q hq => hq) (fun C F Rt GC hnm => ?_)
  have hC := hR.C
  have hS := hR.S
  obtain ⟨k1_, k2_⟩ := id hk
  refine r_iload_n F rfl rfl dX9_setFrame_0 rfl ?_
  refine r_iconst F dX9_setFrame_1 rfl ?_
  refine r_bipush F (by decide) dX9_setFrame_2 rfl ?_
  refine r_callS F GC (c_X9_in _ _ _ _ ⟨by omega, by omega⟩ ⟨by omega, by omega⟩ ⟨by omega, by omega⟩) s_X9_35 rfl (by decide) (by decide) (Nat.le_of_ble_eq_true rfl) rfl dX9_setFrame_4 rfl (fun v lay' mem' n' hp => ?_)
  obtain ⟨q1, q2, q3, q4⟩ := hp
  subst q1; subst q2; subst q3; subst q4
  refine r_if_ne F (tgt := 14) ja_b_in dX9_setFrame_7 rfl (by decide) (fun h_7 => ?_) (fun h_7 => ?_)
  ·
    have b_7 : (4 ≤ k ∧ k ≤ 16) := ja_b_1 h_7
    refine r_aload_n F rfl rfl dX9_setFrame_14 rfl ?_
    refine r_callV F GC (c_X9_isBegun _ _ _ _ hM hR) v_X9_39 rfl (hM.1) rfl (by decide) (by decide) (Nat.le_of_ble_eq_true rfl) rfl dX9_setFrame_15 rfl (fun v lay' mem' n' hp => ?_)
    obtain ⟨q1, q2, q3, q4⟩ := hp
    subst q1; subst q2; subst q3; subst q4
    refine r_if_eq F (tgt := 27) ja_b_in dX9_setFrame_18 rfl (by decide) (fun h_18 => ?_) (fun h_18 => ?_)
    ·
      have b_18 : ¬ (N_bg v) := ja_b_0.mp h_18
      have c2 : (4 ≤ k ∧ k ≤ 16) ∧ ¬ N_bg v := ⟨by omega, b_18⟩
      refine r_aload_n F rfl rfl dX9_setFrame_27 rfl ?_
      refine r_iconst F dX9_setFrame_28 rfl ?_
      refine r_iload_n F rfl rfl dX9_setFrame_29 rfl ?_
      refine r_callV F GC (c_X9_put _ _ _ _ hM (a := 0) (by omega)) v_X9_43 rfl (hM.1) rfl (by decide) (by decide) (Nat.le_of_ble_eq_true rfl) rfl dX9_setFrame_30 rfl (fun v lay' mem' n' hp => ?_)
      obtain ⟨q1, q2, q3, q4⟩ := hp
      subst q1; subst q2; subst q3; subst q4
      exact r_iret F Rt dX9_setFrame_33 (by decide) ⟨by first | rw [if_pos (by omega), if_pos b_18] | (rw [if_pos (by omega), if_neg b_18]; try rw [ja_rs_n (by omega)]), rfl, by first | rw [if_pos c2] | rw [if_neg c2], rfl⟩
    ·
      have b_18 : (N_bg v) := ja_b_1 h_18
      have c2 : ¬ ((4 ≤ k ∧ k ≤ 16) ∧ ¬ N_bg v) := fun q => q.2 b_18
      refine r_sipush F (by decide) dX9_setFrame_21 rfl ?_
      refine r_goto F (tgt := 33) dX9_setFrame_24 (by decide) ?_
      exact r_iret F Rt dX9_setFrame_33 (by decide) ⟨by first | rw [if_pos (by omega), if_pos b_18] | (rw [if_pos (by omega), if_neg b_18]; try rw [ja_rs_n (by omega)]), rfl, by first | rw [if_pos c2] | rw [if_neg c2], rfl⟩
  ·
    have b_7 : ¬ (4 ≤ k ∧ k ≤ 16) := ja_b_0.mp h_7
    refine r_sipush F (by decide) dX9_setFrame_10 rfl ?_
    exact r_iret F Rt dX9_setFrame_13 (by decide) ⟨by rw [if_neg (by omega)], rfl, by rw [if_neg (fun q => absurd q.1 (by omega))], rfl⟩
abbrev rm_X9_setWave : Room := { frames := 1, cells := 0, slots := 0, locals := 23 }
set_option maxRecDepth 100000 in
set_option maxHeartbeats 800000 in
theorem c_X9_setWave (l : Launch) (D : va_G) (cA : Nat → ClassId) (B : Nat) {lay : ja_Y} {n : Nat} {m : Nat} {G : ja_M} {v : Nat → Int} (hM : ja_LM lay m) {k i : Int} (hR : N_R v) (hk : ja_in k) (hi : ja_in i) : ja_Mt l D cA B yX9_setWave cX9_setWave 4 (some .int) rm_X9_setWave [.ref m, .int (ja_I k), .int (ja_I i)] lay (ja_rw G (m + 1) v) n (ja_rd lay (ja_rw G (m + 1) (if (2 ≤ k ∧ k ≤ 32 ∧ 1 ≤ i ∧ i ≤ 200) ∧ ¬ N_bg v then ja_rs (ja_rs v 1 k) 2 i else v)) n (some (.int (ja_I (if 2 ≤ k ∧ k ≤ 32 ∧ 1 ≤ i ∧ i ≤ 200 then (if N_bg v then -1003 else 1000 * v 1 + v 2) else -1001))))) := by
  refine ja_enter [some (.ref m), some (.int (ja_I k)), some (.int (ja_I i)), none] (by decide) (Nat.le_of_ble_eq_true rfl) (fun q hq => hq) (fun C F Rt GC hnm => ?_)
  have hC := hR.C
  have hS := hR.S
  obtain ⟨k1_, k2_⟩ := id hk
  obtain ⟨i1_, i2_⟩ := id hi
  refine r_iload_n F rfl rfl dX9_setWave_0 rfl ?_
  refine r_iconst F dX9_setWave_1 rfl ?_
  refine r_bipush F (by decide) dX9_setWave_2 rfl ?_
  refine r_callS F GC (c_X9_in _ _ _ _ ⟨by omega, by omega⟩ ⟨by omega, by omega⟩ ⟨by omega, by omega⟩) s_X9_35 rfl (by decide) (by decide) (Nat.le_of_ble_eq_true rfl) rfl dX9_setWave_4 rfl (fun v lay' mem' n' hp => ?_)
  obtain ⟨q1, q2, q3, q4⟩ := hp
  subst q1; subst q2; subst q3; subst q4
  refine r_if_eq F (tgt := 21) ja_b_in dX9_setWave_7 rfl (by decide) (fun h_7 => ?_) (fun h_7 => ?_)
  ·
    have b_7 : ¬ (2 ≤ k ∧ k ≤ 32) := ja_b_0.mp h_7
    refine r_sipush F (by decide) dX9_setWave_21 rfl ?_
    exact r_iret F Rt dX9_setWave_24 (by decide) ⟨by rw [if_neg (by omega)], rfl, by rw [if_neg (fun q => absurd q.1 (by omega))], rfl⟩
  ·
    have b_7 : (2 ≤ k ∧ k ≤ 32) := ja_b_1 h_7
    refine r_iload_n F rfl rfl dX9_setWave_10 rfl ?_
    refine r_iconst F dX9_setWave_11 rfl ?_
    refine r_sipush F (by decide) dX9_setWave_12 rfl ?_
    refine r_callS F GC (c_X9_in _ _ _ _ ⟨by omega, by omega⟩ ⟨by omega, by omega⟩ ⟨by omega, by omega⟩) s_X9_35 rfl (by decide) (by decide) (Nat.le_of_ble_eq_true rfl) rfl dX9_setWave_15 rfl (fun v lay' mem' n' hp => ?_)
    obtain ⟨q1, q2, q3, q4⟩ := hp
    subst q1; subst q2; subst q3; subst q4
    refine r_if_ne F (tgt := 25) ja_b_in dX9_setWave_18 rfl (by decide) (fun h_18 => ?_) (fun h_18 => ?_)
    ·
      have b_18 : (1 ≤ i ∧ i ≤ 200) := ja_b_1 h_18
      refine r_aload_n F rfl rfl dX9_setWave_25 rfl ?_
      refine r_callV F GC (c_X9_isBegun _ _ _ _ hM hR) v_X9_39 rfl (hM.1) rfl (by decide) (by decide) (Nat.le_of_ble_eq_true rfl) rfl dX9_setWave_26 rfl (fun v lay' mem' n' hp => ?_)
      obtain ⟨q1, q2, q3, q4⟩ := hp
      subst q1; subst q2; subst q3; subst q4
      refine r_if_eq F (tgt := 36) ja_b_in dX9_setWave_29 rfl (by decide) (fun h_29 => ?_) (fun h_29 => ?_)
      ·
        have b_29 : ¬ (N_bg v) := ja_b_0.mp h_29
        have c2 : (2 ≤ k ∧ k ≤ 32 ∧ 1 ≤ i ∧ i ≤ 200) ∧ ¬ N_bg v := ⟨by omega, b_29⟩
        refine r_sipush F (by decide) dX9_setWave_36 rfl ?_
        refine r_aload_n F rfl rfl dX9_setWave_39 rfl ?_
        refine r_iconst F dX9_setWave_40 rfl ?_
        refine r_iload_n F rfl rfl dX9_setWave_41 rfl ?_
        refine r_callV F GC (c_X9_put _ _ _ _ hM (a := 1) (by omega)) v_X9_43 rfl (hM.1) rfl (by decide) (by decide) (Nat.le_of_ble_eq_true rfl) rfl dX9_setWave_42 rfl (fun v lay' mem' n' hp => ?_)
        obtain ⟨q1, q2, q3, q4⟩ := hp
        subst q1; subst q2; subst q3; subst q4
        refine r_imul F dX9_setWave_45 rfl ?_
        refine r_ist3 F (by decide) rfl dX9_setWave_46 rfl ?_
        refine r_iload_n F rfl rfl dX9_setWave_47 rfl ?_
        refine r_aload_n F rfl rfl dX9_setWave_48 rfl ?_
        refine r_iconst F dX9_setWave_49 rfl ?_
        refine r_iload_n F rfl rfl dX9_setWave_50 rfl ?_
        refine r_callV F GC (c_X9_put _ _ _ _ hM (a := 2) (by omega)) v_X9_43 rfl (hM.1) rfl (by decide) (by decide) (Nat.le_of_ble_eq_true rfl) rfl dX9_setWave_51 rfl (fun v lay' mem' n' hp => ?_)
        obtain ⟨q1, q2, q3, q4⟩ := hp
        subst q1; subst q2; subst q3; subst q4
        refine r_iadd F dX9_setWave_54 rfl ?_
        exact r_iret F Rt dX9_setWave_55 (by decide) ⟨by first | rw [if_pos (by omega), if_pos b_29] | (rw [if_pos (by omega), if_neg b_29]; try rw [ja_rs_n (by omega)]), rfl, by first | rw [if_pos c2] | rw [if_neg c2], rfl⟩
      ·
        have b_29 : (N_bg v) := ja_b_1 h_29
        have c2 : ¬ ((2 ≤ k ∧ k ≤ 32 ∧ 1 ≤ i ∧ i ≤ 200) ∧ ¬ N_bg v) := fun q => q.2 b_29
        refine r_sipush F (by decide) dX9_setWave_32 rfl ?_
        exact r_iret F Rt dX9_setWave_35 (by decide) ⟨by first | rw [if_pos (by omega), if_pos b_29] | (rw [if_pos (by omega), if_neg b_29]; try rw [ja_rs_n (by omega)]), rfl, by first | rw [if_pos c2] | rw [if_neg c2], rfl⟩
    ·
      have b_18 : ¬ (1 ≤ i ∧ i ≤ 200) := ja_b_0.mp h_18
      refine r_sipush F (by decide) dX9_setWave_21 rfl ?_
      exact r_iret F Rt dX9_setWave_24 (by decide) ⟨by rw [if_neg (by omega)], rfl, by rw [if_neg (fun q => absurd q.1 (by omega))], rfl⟩
abbrev rm_X9_setBlock : Room := { frames := 1, cells := 0, slots := 0, locals := 23 }
set_option maxRecDepth 100000 in
set_option maxHeartbeats 800000 in
theorem c_X9_setBlock (l : Launch) (D : va_G) (cA : Nat → ClassId) (B : Nat) {lay : ja_Y} {n : Nat} {m : Nat} {G : ja_M} {v : Nat → Int} (hM : ja_LM lay m) {k i : Int} (hR : N_R v) (hk : ja_in k) (hi : ja_in i) : ja_Mt l D cA B yX9_setBlock cX9_setBlock 4 (some .int) rm_X9_setBlock [.ref m, .int (ja_I k), .int (ja_I i)] lay (ja_rw G (m + 1) v) n (ja_rd lay (ja_rw G (m + 1) (if (2 ≤ k ∧ k ≤ 6 ∧ 2 ≤ i ∧ i ≤ 6) ∧ ¬ N_bg v then ja_rs (ja_rs v 3 k) 4 i else v)) n (some (.int (ja_I (if 2 ≤ k ∧ k ≤ 6 ∧ 2 ≤ i ∧ i ≤ 6 then (if N_bg v then -1003 else 10 * v 3 + v 4) else -1001))))) := by
  refine ja_enter [some (.ref m), some (.int (ja_I k)), some (.int (ja_I i)), none] (by decide) (Nat.le_of_ble_eq_true rfl) (fun q hq => hq) (fun C F Rt GC hnm => ?_)
  have hC := hR.C
  have hS := hR.S
  obtain ⟨k1_, k2_⟩ := id hk
  obtain ⟨i1_, i2_⟩ := id hi
  refine r_iload_n F rfl rfl dX9_setBlock_0 rfl ?_
  refine r_iconst F dX9_setBlock_1 rfl ?_
  refine r_bipush F (by decide) dX9_setBlock_2 rfl ?_
  refine r_callS F GC (c_X9_in _ _ _ _ ⟨by omega, by omega⟩ ⟨by omega, by omega⟩ ⟨by omega, by omega⟩) s_X9_35 rfl (by decide) (by decide) (Nat.le_of_ble_eq_true rfl) rfl dX9_setBlock_4 rfl (fun v lay' mem' n' hp => ?_)
  obtain ⟨q1, q2, q3, q4⟩ := hp
  subst q1; subst q2; subst q3; subst q4
  refine r_if_eq F (tgt := 20) ja_b_in dX9_setBlock_7 rfl (by decide) (fun h_7 => ?_) (fun h_7 => ?_)
  ·
    have b_7 : ¬ (2 ≤ k ∧ k ≤ 6) := ja_b_0.mp h_7
    refine r_sipush F (by decide) dX9_setBlock_20 rfl ?_
    exact r_iret F Rt dX9_setBlock_23 (by decide) ⟨by rw [if_neg (by omega)], rfl, by rw [if_neg (fun q => absurd q.1 (by omega))], rfl⟩
  ·
    have b_7 : (2 ≤ k ∧ k ≤ 6) := ja_b_1 h_7
    refine r_iload_n F rfl rfl dX9_setBlock_10 rfl ?_
    refine r_iconst F dX9_setBlock_11 rfl ?_
    refine r_bipush F (by decide) dX9_setBlock_12 rfl ?_
    refine r_callS F GC (c_X9_in _ _ _ _ ⟨by omega, by omega⟩ ⟨by omega, by omega⟩ ⟨by omega, by omega⟩) s_X9_35 rfl (by decide) (by decide) (Nat.le_of_ble_eq_true rfl) rfl dX9_setBlock_14 rfl (fun v lay' mem' n' hp => ?_)
    obtain ⟨q1, q2, q3, q4⟩ := hp
    subst q1; subst q2; subst q3; subst q4
    refine r_if_ne F (tgt := 24) ja_b_in dX9_setBlock_17 rfl (by decide) (fun h_17 => ?_) (fun h_17 => ?_)
    ·
      have b_17 : (2 ≤ i ∧ i ≤ 6) := ja_b_1 h_17
      refine r_aload_n F rfl rfl dX9_setBlock_24 rfl ?_
      refine r_callV F GC (c_X9_isBegun _ _ _ _ hM hR) v_X9_39 rfl (hM.1) rfl (by decide) (by decide) (Nat.le_of_ble_eq_true rfl) rfl dX9_setBlock_25 rfl (fun v lay' mem' n' hp => ?_)
      obtain ⟨q1, q2, q3, q4⟩ := hp
      subst q1; subst q2; subst q3; subst q4
      refine r_if_eq F (tgt := 35) ja_b_in dX9_setBlock_28 rfl (by decide) (fun h_28 => ?_) (fun h_28 => ?_)
      ·
        have b_28 : ¬ (N_bg v) := ja_b_0.mp h_28
        have c2 : (2 ≤ k ∧ k ≤ 6 ∧ 2 ≤ i ∧ i ≤ 6) ∧ ¬ N_bg v := ⟨by omega, b_28⟩
        refine r_bipush F (by decide) dX9_setBlock_35 rfl ?_
        refine r_aload_n F rfl rfl dX9_setBlock_37 rfl ?_
        refine r_iconst F dX9_setBlock_38 rfl ?_
        refine r_iload_n F rfl rfl dX9_setBlock_39 rfl ?_
        refine r_callV F GC (c_X9_put _ _ _ _ hM (a := 3) (by omega)) v_X9_43 rfl (hM.1) rfl (by decide) (by decide) (Nat.le_of_ble_eq_true rfl) rfl dX9_setBlock_40 rfl (fun v lay' mem' n' hp => ?_)
        obtain ⟨q1, q2, q3, q4⟩ := hp
        subst q1; subst q2; subst q3; subst q4
        refine r_imul F dX9_setBlock_43 rfl ?_
        refine r_ist3 F (by decide) rfl dX9_setBlock_44 rfl ?_
        refine r_iload_n F rfl rfl dX9_setBlock_45 rfl ?_
        refine r_aload_n F rfl rfl dX9_setBlock_46 rfl ?_
        refine r_iconst F dX9_setBlock_47 rfl ?_
        refine r_iload_n F rfl rfl dX9_setBlock_48 rfl ?_
        refine r_callV F GC (c_X9_put _ _ _ _ hM (a := 4) (by omega)) v_X9_43 rfl (hM.1) rfl (by decide) (by decide) (Nat.le_of_ble_eq_true rfl) rfl dX9_setBlock_49 rfl (fun v lay' mem' n' hp => ?_)
        obtain ⟨q1, q2, q3, q4⟩ := hp
        subst q1; subst q2; subst q3; subst q4
        refine r_iadd F dX9_setBlock_52 rfl ?_
        exact r_iret F Rt dX9_setBlock_53 (by decide) ⟨by first | rw [if_pos (by omega), if_pos b_28] | (rw [if_pos (by omega), if_neg b_28]; try rw [ja_rs_n (by omega)]), rfl, by first | rw [if_pos c2] | rw [if_neg c2], rfl⟩
      ·
        have b_28 : (N_bg v) := ja_b_1 h_28
        have c2 : ¬ ((2 ≤ k ∧ k ≤ 6 ∧ 2 ≤ i ∧ i ≤ 6) ∧ ¬ N_bg v) := fun q => q.2 b_28
        refine r_sipush F (by decide) dX9_setBlock_31 rfl ?_
        exact r_iret F Rt dX9_setBlock_34 (by decide) ⟨by first | rw [if_pos (by omega), if_pos b_28] | (rw [if_pos (by omega), if_neg b_28]; try rw [ja_rs_n (by omega)]), rfl, by first | rw [if_pos c2] | rw [if_neg c2], rfl⟩
    ·
      have b_17 : ¬ (2 ≤ i ∧ i ≤ 6) := ja_b_0.mp h_17
      refine r_sipush F (by decide) dX9_setBlock_20 rfl ?_
      exact r_iret F Rt dX9_setBlock_23 (by decide) ⟨by rw [if_neg (by omega)], rfl, by rw [if_neg (fun q => absurd q.1 (by omega))], rfl⟩
abbrev rm_X9_setInitialDelay : Room := { frames := 1, cells := 0, slots := 0, locals := 23 }
set_option maxRecDepth 100000 in
set_option maxHeartbeats 800000 in
theorem c_X9_setInitialDelay (l : Launch) (D : va_G) (cA : Nat → ClassId) (B : Nat) {lay : ja_Y} {n : Nat} {m : Nat} {G : ja_M} {v : Nat → Int} (hM : ja_LM lay m) {k : Int} (hR : N_R v) (hk : ja_in k) : ja_Mt l D cA B yX9_setInitialDelay cX9_setInitialDelay 2 (some .int) rm_X9_setInitialDelay [.ref m, .int (ja_I k)] lay (ja_rw G (m + 1) v) n (ja_rd lay (ja_rw G (m + 1) (if (0 ≤ k ∧ k ≤ 200) ∧ ¬ N_bg v then ja_rs v 5 k else v)) n (some (.int (ja_I (if 0 ≤ k ∧ k ≤ 200 then (if N_bg v then -1003 else v 5) else -1001))))) := by
  refine ja_enter [some (.ref m), some (.int (ja_I k))] (by decide) (Nat.le_of_ble_eq_true rfl) (fun q hq => hq) (fun C F Rt GC hnm => ?_)
  have hC := hR.C
  have hS := hR.S
  obtain ⟨k1_, k2_⟩ := id hk
  refine r_iload_n F rfl rfl dX9_setInitialDelay_0 rfl ?_
  refine r_iconst F dX9_setInitialDelay_1 rfl ?_
  refine r_sipush F (by decide) dX9_setInitialDelay_2 rfl ?_
  refine r_callS F GC (c_X9_in _ _ _ _ ⟨by omega, by omega⟩ ⟨by omega, by omega⟩ ⟨by omega, by omega⟩) s_X9_35 rfl (by decide) (by decide) (Nat.le_of_ble_eq_true rfl) rfl dX9_setInitialDelay_5 rfl (fun v lay' mem' n' hp => ?_)
  obtain ⟨q1, q2, q3, q4⟩ := hp
  subst q1; subst q2; subst q3; subst q4
  refine r_if_ne F (tgt := 15) ja_b_in dX9_setInitialDelay_8 rfl (by decide) (fun h_8 => ?_) (fun h_8 => ?_)
  ·
    have b_8 : (0 ≤ k ∧ k ≤ 200) := ja_b_1 h_8
    refine r_aload_n F rfl rfl dX9_setInitialDelay_15 rfl ?_
    refine r_callV F GC (c_X9_isBegun _ _ _ _ hM hR) v_X9_39 rfl (hM.1) rfl (by decide) (by decide) (Nat.le_of_ble_eq_true rfl) rfl dX9_setInitialDelay_16 rfl (fun v lay' mem' n' hp => ?_)
    obtain ⟨q1, q2, q3, q4⟩ := hp
    subst q1; subst q2; subst q3; subst q4
    refine r_if_eq F (tgt := 28) ja_b_in dX9_setInitialDelay_19 rfl (by decide) (fun h_19 => ?_) (fun h_19 => ?_)
    ·
      have b_19 : ¬ (N_bg v) := ja_b_0.mp h_19
      have c2 : (0 ≤ k ∧ k ≤ 200) ∧ ¬ N_bg v := ⟨by omega, b_19⟩
      refine r_aload_n F rfl rfl dX9_setInitialDelay_28 rfl ?_
      refine r_iconst F dX9_setInitialDelay_29 rfl ?_
      refine r_iload_n F rfl rfl dX9_setInitialDelay_30 rfl ?_
      refine r_callV F GC (c_X9_put _ _ _ _ hM (a := 5) (by omega)) v_X9_43 rfl (hM.1) rfl (by decide) (by decide) (Nat.le_of_ble_eq_true rfl) rfl dX9_setInitialDelay_31 rfl (fun v lay' mem' n' hp => ?_)
      obtain ⟨q1, q2, q3, q4⟩ := hp
      subst q1; subst q2; subst q3; subst q4
      exact r_iret F Rt dX9_setInitialDelay_34 (by decide) ⟨by first | rw [if_pos (by omega), if_pos b_19] | (rw [if_pos (by omega), if_neg b_19]; try rw [ja_rs_n (by omega)]), rfl, by first | rw [if_pos c2] | rw [if_neg c2], rfl⟩
    ·
      have b_19 : (N_bg v) := ja_b_1 h_19
      have c2 : ¬ ((0 ≤ k ∧ k ≤ 200) ∧ ¬ N_bg v) := fun q => q.2 b_19
      refine r_sipush F (by decide) dX9_setInitialDelay_22 rfl ?_
      refine r_goto F (tgt := 34) dX9_setInitialDelay_25 (by decide) ?_
      exact r_iret F Rt dX9_setInitialDelay_34 (by decide) ⟨by first | rw [if_pos (by omega), if_pos b_19] | (rw [if_pos (by omega), if_neg b_19]; try rw [ja_rs_n (by omega)]), rfl, by first | rw [if_pos c2] | rw [if_neg c2], rfl⟩
  ·
    have b_8 : ¬ (0 ≤ k ∧ k ≤ 200) := ja_b_0.mp h_8
    refine r_sipush F (by decide) dX9_setInitialDelay_11 rfl ?_
    exact r_iret F Rt dX9_setInitialDelay_14 (by decide) ⟨by rw [if_neg (by omega)], rfl, by rw [if_neg (fun q => absurd q.1 (by omega))], rfl⟩
abbrev rm_X9_setQuantile : Room := { frames := 1, cells := 0, slots := 0, locals := 23 }
set_option maxRecDepth 100000 in
set_option maxHeartbeats 800000 in
theorem c_X9_setQuantile (l : Launch) (D : va_G) (cA : Nat → ClassId) (B : Nat) {lay : ja_Y} {n : Nat} {m : Nat} {G : ja_M} {v : Nat → Int} (hM : ja_LM lay m) {k : Int} (hR : N_R v) (hk : ja_in k) : ja_Mt l D cA B yX9_setQuantile cX9_setQuantile 2 (some .int) rm_X9_setQuantile [.ref m, .int (ja_I k)] lay (ja_rw G (m + 1) v) n (ja_rd lay (ja_rw G (m + 1) (if 1 ≤ k ∧ k ≤ 100 then ja_rs v 6 k else v)) n (some (.int (ja_I (if 1 ≤ k ∧ k ≤ 100 then v 6 else -1001))))) := by
  refine ja_enter [some (.ref m), some (.int (ja_I k))] (by decide) (Nat.le_of_ble_eq_true rfl) (fun q hq => hq) (fun C F Rt GC hnm => ?_)
  have hC := hR.C
  have hS := hR.S
  obtain ⟨k1_, k2_⟩ := id hk
  refine r_iload_n F rfl rfl dX9_setQuantile_0 rfl ?_
  refine r_iconst F dX9_setQuantile_1 rfl ?_
  refine r_bipush F (by decide) dX9_setQuantile_2 rfl ?_
  refine r_callS F GC (c_X9_in _ _ _ _ ⟨by omega, by omega⟩ ⟨by omega, by omega⟩ ⟨by omega, by omega⟩) s_X9_35 rfl (by decide) (by decide) (Nat.le_of_ble_eq_true rfl) rfl dX9_setQuantile_4 rfl (fun v lay' mem' n' hp => ?_)
  obtain ⟨q1, q2, q3, q4⟩ := hp
  subst q1; subst q2; subst q3; subst q4
  refine r_if_eq F (tgt := 20) ja_b_in dX9_setQuantile_7 rfl (by decide) (fun h_7 => ?_) (fun h_7 => ?_)
  ·
    have b_7 : ¬ (1 ≤ k ∧ k ≤ 100) := ja_b_0.mp h_7
    refine r_sipush F (by decide) dX9_setQuantile_20 rfl ?_
    exact r_iret F Rt dX9_setQuantile_23 (by decide) ⟨by first | rw [if_pos b_7] | rw [if_neg b_7], rfl, by first | rw [if_pos b_7] | rw [if_neg b_7], rfl⟩
  ·
    have b_7 : (1 ≤ k ∧ k ≤ 100) := ja_b_1 h_7
    refine r_aload_n F rfl rfl dX9_setQuantile_10 rfl ?_
    refine r_bipush F (by decide) dX9_setQuantile_11 rfl ?_
    refine r_iload_n F rfl rfl dX9_setQuantile_13 rfl ?_
    refine r_callV F GC (c_X9_put _ _ _ _ hM (a := 6) (by omega)) v_X9_43 rfl (hM.1) rfl (by decide) (by decide) (Nat.le_of_ble_eq_true rfl) rfl dX9_setQuantile_14 rfl (fun v lay' mem' n' hp => ?_)
    obtain ⟨q1, q2, q3, q4⟩ := hp
    subst q1; subst q2; subst q3; subst q4
    refine r_goto F (tgt := 23) dX9_setQuantile_17 (by decide) ?_
    exact r_iret F Rt dX9_setQuantile_23 (by decide) ⟨by first | rw [if_pos b_7] | rw [if_neg b_7], rfl, by first | rw [if_pos b_7] | rw [if_neg b_7], rfl⟩
abbrev rm_X9_setMargin : Room := { frames := 1, cells := 0, slots := 0, locals := 23 }
set_option maxRecDepth 100000 in
set_option maxHeartbeats 800000 in
theorem c_X9_setMargin (l : Launch) (D : va_G) (cA : Nat → ClassId) (B : Nat) {lay : ja_Y} {n : Nat} {m : Nat} {G : ja_M} {v : Nat → Int} (hM : ja_LM lay m) {k : Int} (hR : N_R v) (hk : ja_in k) : ja_Mt l D cA B yX9_setMargin cX9_setMargin 2 (some .int) rm_X9_setMargin [.ref m, .int (ja_I k)] lay (ja_rw G (m + 1) v) n (ja_rd lay (ja_rw G (m + 1) (if 0 ≤ k ∧ k ≤ 100 then ja_rs v 7 k else v)) n (some (.int (ja_I (if 0 ≤ k ∧ k ≤ 100 then v 7 else -1001))))) := by
  refine ja_enter [some (.ref m), some (.int (ja_I k))] (by decide) (Nat.le_of_ble_eq_true rfl) (fun q hq => hq) (fun C F Rt GC hnm => ?_)
  have hC := hR.C
  have hS := hR.S
  obtain ⟨k1_, k2_⟩ := id hk
  refine r_iload_n F rfl rfl dX9_setMargin_0 rfl ?_
  refine r_iconst F dX9_setMargin_1 rfl ?_
  refine r_bipush F (by decide) dX9_setMargin_2 rfl ?_
  refine r_callS F GC (c_X9_in _ _ _ _ ⟨by omega, by omega⟩ ⟨by omega, by omega⟩ ⟨by omega, by omega⟩) s_X9_35 rfl (by decide) (by decide) (Nat.le_of_ble_eq_true rfl) rfl dX9_setMargin_4 rfl (fun v lay' mem' n' hp => ?_)
  obtain ⟨q1, q2, q3, q4⟩ := hp
  subst q1; subst q2; subst q3; subst q4
  refine r_if_eq F (tgt := 20) ja_b_in dX9_setMargin_7 rfl (by decide) (fun h_7 => ?_) (fun h_7 => ?_)
  ·
    have b_7 : ¬ (0 ≤ k ∧ k ≤ 100) := ja_b_0.mp h_7
    refine r_sipush F (by decide) dX9_setMargin_20 rfl ?_
    exact r_iret F Rt dX9_setMargin_23 (by decide) ⟨by first | rw [if_pos b_7] | rw [if_neg b_7], rfl, by first | rw [if_pos b_7] | rw [if_neg b_7], rfl⟩
  ·
    have b_7 : (0 ≤ k ∧ k ≤ 100) := ja_b_1 h_7
    refine r_aload_n F rfl rfl dX9_setMargin_10 rfl ?_
    refine r_bipush F (by decide) dX9_setMargin_11 rfl ?_
    refine r_iload_n F rfl rfl dX9_setMargin_13 rfl ?_
    refine r_callV F GC (c_X9_put _ _ _ _ hM (a := 7) (by omega)) v_X9_43 rfl (hM.1) rfl (by decide) (by decide) (Nat.le_of_ble_eq_true rfl) rfl dX9_setMargin_14 rfl (fun v lay' mem' n' hp => ?_)
    obtain ⟨q1, q2, q3, q4⟩ := hp
    subst q1; subst q2; subst q3; subst q4
    refine r_goto F (tgt := 23) dX9_setMargin_17 (by decide) ?_
    exact r_iret F Rt dX9_setMargin_23 (by decide) ⟨by first | rw [if_pos b_7] | rw [if_neg b_7], rfl, by first | rw [if_pos b_7] | rw [if_neg b_7], rfl⟩
abbrev rm_X9_setAdapting : Room := { frames := 1, cells := 0, slots := 0, locals := 23 }
set_option maxRecDepth 100000 in
set_option maxHeartbeats 800000 in
theorem c_X9_setAdapting (l : Launch) (D : va_G) (cA : Nat → ClassId) (B : Nat) {lay : ja_Y} {n : Nat} {m : Nat} {G : ja_M} {v : Nat → Int} (hM : ja_LM lay m) {k : Int} (hR : N_R v) (hk : 0 ≤ k ∧ k ≤ 1) : ja_Mt l D cA B yX9_setAdapting cX9_setAdapting 2 (some .int) rm_X9_setAdapting [.ref m, .int (ja_I k)] lay (ja_rw G (m + 1) v) n (ja_rd lay (ja_rw G (m + 1) (ja_rs v 8 k)) n (some (.int (ja_I (v 8))))) := by
  refine ja_enter [some (.ref m), some (.int (ja_I k))] (by decide) (Nat.le_of_ble_eq_true rfl) (fun q hq => hq) (fun C F Rt GC hnm => ?_)
  have hC := hR.C
  have hS := hR.S
  refine r_aload_n F rfl rfl dX9_setAdapting_0 rfl ?_
  refine r_bipush F (by decide) dX9_setAdapting_1 rfl ?_
  refine r_iload_n F rfl rfl dX9_setAdapting_3 rfl ?_
  refine r_if_eq F (tgt := 11) ⟨by omega, by omega⟩ dX9_setAdapting_4 rfl (by decide) (fun h_4 => ?_) (fun h_4 => ?_)
  ·
    obtain rfl : k = 0 := by omega
    refine r_iconst F dX9_setAdapting_11 rfl ?_
    refine r_callV F GC (c_X9_put _ _ _ _ hM (a := 8) (by omega)) v_X9_43 rfl (hM.1) rfl (by decide) (by decide) (Nat.le_of_ble_eq_true rfl) rfl dX9_setAdapting_12 rfl (fun v lay' mem' n' hp => ?_)
    obtain ⟨q1, q2, q3, q4⟩ := hp
    subst q1; subst q2; subst q3; subst q4
    exact r_iret F Rt dX9_setAdapting_15 (by decide) ⟨rfl, rfl, rfl, rfl⟩
  ·
    obtain rfl : k = 1 := by omega
    refine r_iconst F dX9_setAdapting_7 rfl ?_
    refine r_goto F (tgt := 12) dX9_setAdapting_8 (by decide) ?_
    refine r_callV F GC (c_X9_put _ _ _ _ hM (a := 8) (by omega)) v_X9_43 rfl (hM.1) rfl (by decide) (by decide) (Nat.le_of_ble_eq_true rfl) rfl dX9_setAdapting_12 rfl (fun v lay' mem' n' hp => ?_)
    obtain ⟨q1, q2, q3, q4⟩ := hp
    subst q1; subst q2; subst q3; subst q4
    exact r_iret F Rt dX9_setAdapting_15 (by decide) ⟨rfl, rfl, rfl, rfl⟩
abbrev rm_X9_arrive : Room := { frames := 6, cells := 0, slots := 0, locals := 140 }
set_option maxRecDepth 100000 in
set_option maxHeartbeats 800000 in
theorem c_X9_arrive (l : Launch) (D : va_G) (cA : Nat → ClassId) (B : Nat) {lay : ja_Y} {n : Nat} {m : Nat} {G : ja_M} {v : Nat → Int} (hM : ja_LM lay m) {x : Int} {t : Int} (hO : N_O v t) (ht : t ≤ 900000) (hx : ja_in x) : ja_Mt l D cA B yX9_arrive cX9_arrive 2 (some .int) rm_X9_arrive [.ref m, .int (ja_I x)] lay (ja_rw G (m + 1) v) n (ja_rd lay (ja_rw G (m + 1) (if N_isF x then N_av v x else v)) n (some (.int (ja_I (if N_isF x then N_an v x else -1001))))) := by
  refine ja_enter [some (.ref m), some (.int (ja_I x))] (by decide) (Nat.le_of_ble_eq_true rfl) (fun q hq => hq) (fun C F Rt GC hnm => ?_)
  obtain ⟨x1_, x2_⟩ := id hx
  refine r_iload_n F rfl rfl dX9_arrive_0 rfl ?_
  refine r_callS F GC (c_X9_isFrame _ _ _ _ ⟨by omega, by omega⟩) s_X9_84 rfl (by decide) (by decide) (Nat.le_of_ble_eq_true rfl) rfl dX9_arrive_1 rfl (fun v lay' mem' n' hp => ?_)
  obtain ⟨q1, q2, q3, q4⟩ := hp
  subst q1; subst q2; subst q3; subst q4
  refine r_if_eq F (tgt := 15) ja_b_in dX9_arrive_4 rfl (by decide) (fun h_4 => ?_) (fun h_4 => ?_)
  ·
    have b_4 : ¬ (0 ≤ x ∧ x ≤ 999) := ja_b_0.mp h_4
    refine r_sipush F (by decide) dX9_arrive_15 rfl ?_
    exact r_iret F Rt dX9_arrive_18 (by decide) ⟨by first | rw [if_pos b_4] | rw [if_neg b_4], rfl, by first | rw [if_pos b_4] | rw [if_neg b_4], rfl⟩
  ·
    have b_4 : (0 ≤ x ∧ x ≤ 999) := ja_b_1 h_4
    refine r_aload_n F rfl rfl dX9_arrive_7 rfl ?_
    refine r_iload_n F rfl rfl dX9_arrive_8 rfl ?_
    refine r_callV F GC (c_X9_arrives _ _ _ _ hM hO ht b_4) v_X9_87 rfl (hM.1) rfl (by decide) (by decide) (Nat.le_of_ble_eq_true rfl) rfl dX9_arrive_9 rfl (fun v lay' mem' n' hp => ?_)
    obtain ⟨q1, q2, q3, q4⟩ := hp
    subst q1; subst q2; subst q3; subst q4
    refine r_goto F (tgt := 18) dX9_arrive_12 (by decide) ?_
    exact r_iret F Rt dX9_arrive_18 (by decide) ⟨by first | rw [if_pos b_4] | rw [if_neg b_4], rfl, by first | rw [if_pos b_4] | rw [if_neg b_4], rfl⟩
abbrev rm_X9_arriveParity : Room := { frames := 6, cells := 0, slots := 0, locals := 143 }
set_option maxRecDepth 100000 in
set_option maxHeartbeats 800000 in
theorem c_X9_arriveParity (l : Launch) (D : va_G) (cA : Nat → ClassId) (B : Nat) {lay : ja_Y} {n : Nat} {m : Nat} {G : ja_M} {v : Nat → Int} (hM : ja_LM lay m) {r k i : Int} {t : Int} (hO : N_O v t) (ht : t ≤ 900000) (h01 : 0 ≤ r ∧ r ≤ 1) (hk : ja_in k) (hi : ja_in i) : ja_Mt l D cA B yX9_arriveParity cX9_arriveParity 4 (some .int) rm_X9_arriveParity [.ref m, .int (ja_I r), .int (ja_I k), .int (ja_I i)] lay (ja_rw G (m + 1) v) n (ja_rd lay (ja_rw G (m + 1) (if N_hP v r k i then N_qv v r k i else v)) n (some (.int (ja_I (if N_hP v r k i then N_qn v r k i else -1001))))) := by
  refine ja_enter [some (.ref m), some (.int (ja_I r)), some (.int (ja_I k)), some (.int (ja_I i))] (by decide) (Nat.le_of_ble_eq_true rfl) (fun q hq => hq) (fun C F Rt GC hnm => ?_)
  have hR := hO.1
  have hS := hR.S
  obtain ⟨k1_, k2_⟩ := id hk
  obtain ⟨i1_, i2_⟩ := id hi
  refine r_aload_n F rfl rfl dX9_arriveParity_0 rfl ?_
  refine r_iload_n F rfl rfl dX9_arriveParity_1 rfl ?_
  refine r_iload_n F rfl rfl dX9_arriveParity_2 rfl ?_
  refine r_iload_n F rfl rfl dX9_arriveParity_3 rfl ?_
  refine r_callV F GC (c_X9_isPacket _ _ _ _ hM hS h01 hk hi) v_X9_91 rfl (hM.1) rfl (by decide) (by decide) (Nat.le_of_ble_eq_true rfl) rfl dX9_arriveParity_4 rfl (fun v lay' mem' n' hp => ?_)
  obtain ⟨q1, q2, q3, q4⟩ := hp
  subst q1; subst q2; subst q3; subst q4
  refine r_if_eq F (tgt := 20) ja_b_in dX9_arriveParity_7 rfl (by decide) (fun h_7 => ?_) (fun h_7 => ?_)
  ·
    have b_7 : ¬ (N_hP v r k i) := ja_b_0.mp h_7
    refine r_sipush F (by decide) dX9_arriveParity_20 rfl ?_
    exact r_iret F Rt dX9_arriveParity_23 (by decide) ⟨by first | rw [if_pos b_7] | rw [if_neg b_7], rfl, by first | rw [if_pos b_7] | rw [if_neg b_7], rfl⟩
  ·
    have b_7 : (N_hP v r k i) := ja_b_1 h_7
    refine r_aload_n F rfl rfl dX9_arriveParity_10 rfl ?_
    refine r_iload_n F rfl rfl dX9_arriveParity_11 rfl ?_
    refine r_iload_n F rfl rfl dX9_arriveParity_12 rfl ?_
    refine r_iload_n F rfl rfl dX9_arriveParity_13 rfl ?_
    refine r_callV F GC (c_X9_arrivesParity _ _ _ _ hM hO ht h01 b_7.1 (N_hP_6 hS b_7)) v_X9_95 rfl (hM.1) rfl (by decide) (by decide) (Nat.le_of_ble_eq_true rfl) rfl dX9_arriveParity_14 rfl (fun v lay' mem' n' hp => ?_)
    obtain ⟨q1, q2, q3, q4⟩ := hp
    subst q1; subst q2; subst q3; subst q4
    refine r_goto F (tgt := 23) dX9_arriveParity_17 (by decide) ?_
    exact r_iret F Rt dX9_arriveParity_23 (by decide) ⟨by first | rw [if_pos b_7] | rw [if_neg b_7], rfl, by first | rw [if_pos b_7] | rw [if_neg b_7], rfl⟩
abbrev rm_X9_advance : Room := { frames := 8, cells := 0, slots := 0, locals := 189 }
set_option maxRecDepth 100000 in
set_option maxHeartbeats 800000 in
theorem c_X9_advance (l : Launch) (D : va_G) (cA : Nat → ClassId) (B : Nat) {lay : ja_Y} {n : Nat} {m : Nat} {G : ja_M} {v : Nat → Int} (hM : ja_LM lay m) {x : Int} {t : Int} (hO : N_O v t) (ht : t ≤ 898000) (hx : ja_in x) : ja_Mt l D cA B yX9_advance cX9_advance 4 (some .int) rm_X9_advance [.ref m, .int (ja_I x)] lay (ja_rw G (m + 1) v) n (N_pg lay m n G (if 1 ≤ x ∧ x ≤ 500 then N_ad v x.toNat else v) (some (.int (ja_I (if 1 ≤ x ∧ x ≤ 500 then N_at v x.toNat else -1001))))) := by
  refine ja_enter [some (.ref m), some (.int (ja_I x)), none, none] (by decide) (Nat.le_of_ble_eq_true rfl) (fun q hq => hq) (fun C F Rt GC hnm => ?_)
  obtain ⟨x1_, x2_⟩ := id hx
  refine r_iload_n F rfl rfl dX9_advance_0 rfl ?_
  refine r_iconst F dX9_advance_1 rfl ?_
  refine r_sipush F (by decide) dX9_advance_2 rfl ?_
  refine r_callS F GC (c_X9_in _ _ _ _ ⟨by omega, by omega⟩ ⟨by omega, by omega⟩ ⟨by omega, by omega⟩) s_X9_35 rfl (by decide) (by decide) (Nat.le_of_ble_eq_true rfl) rfl dX9_advance_5 rfl (fun v lay' mem' n' hp => ?_)
  obtain ⟨q1, q2, q3, q4⟩ := hp
  subst q1; subst q2; subst q3; subst q4
  refine r_if_ne F (tgt := 15) ja_b_in dX9_advance_8 rfl (by decide) (fun h_8 => ?_) (fun h_8 => ?_)
  ·
    have b_8 : (1 ≤ x ∧ x ≤ 500) := ja_b_1 h_8
    refine r_iconst F dX9_advance_15 rfl ?_
    refine r_ist2 F (by decide) rfl dX9_advance_16 rfl ?_
    refine r_iconst F dX9_advance_17 rfl ?_
    refine r_ist3 F (by decide) rfl dX9_advance_18 rfl ?_
    have loop : ∀ (d c : Nat) (G1 : ja_M), c + d = x.toNat → N_ge m G G1 → ja_W C 0 0 lay (ja_rw G1 (m + 1) (N_ad v c)) n 19 [some (.ref m), some (.int (ja_I x)), some (.int (ja_I (N_at v c))), some (.int (ja_I (c : Int)))] [] := by
      intro d
      induction d with
      | zero =>
        intro c G1 hc hG1
        have hwO := N_ad_O hO c (by omega)
        have ha := @N_at_in v c
        refine r_iload_n F rfl rfl dX9_advance_19 rfl ?_
        refine r_iload_n F rfl rfl dX9_advance_20 rfl ?_
        refine r_icmp_ge F (tgt := 37) ⟨by omega, by omega⟩ ⟨by omega, by omega⟩ dX9_advance_21 rfl (by decide) (fun h_21 => ?_) (fun h_21 => ?_)
        ·
          refine r_iload_n F rfl rfl dX9_advance_37 rfl ?_
          exact r_iret F Rt dX9_advance_38 (by decide) ⟨by rw [if_pos b_8, show x.toNat = c by omega], rfl, rfl, G1, hG1, by rw [if_pos b_8, show x.toNat = c by omega]⟩
        ·
          exfalso; omega
      | succ d ih =>
        intro c G1 hc hG1
        have hwO := N_ad_O hO c (by omega)
        have ha := @N_at_in v c
        refine r_iload_n F rfl rfl dX9_advance_19 rfl ?_
        refine r_iload_n F rfl rfl dX9_advance_20 rfl ?_
        refine r_icmp_ge F (tgt := 37) ⟨by omega, by omega⟩ ⟨by omega, by omega⟩ dX9_advance_21 rfl (by decide) (fun h_21 => ?_) (fun h_21 => ?_)
        ·
          exfalso; omega
        ·
          refine r_iload_n F rfl rfl dX9_advance_24 rfl ?_
          refine r_aload_n F rfl rfl dX9_advance_25 rfl ?_
          refine r_callV F GC (c_X9_tick _ _ _ _ hM hwO (by omega)) v_X9_141 rfl (hM.1) rfl (by decide) (by decide) (Nat.le_of_ble_eq_true rfl) rfl dX9_advance_26 rfl (fun v lay' mem' n' hp => ?_)
          obtain ⟨q1, q2, q3, G2, hG2, q4⟩ := hp
          subst q1; subst q2; subst q3; subst q4
          refine r_iadd F dX9_advance_29 rfl ?_
          refine r_ist2 F (by decide) rfl dX9_advance_30 rfl ?_
          refine r_inc3 F (by decide) rfl dX9_advance_31 rfl ?_
          refine r_goto F (tgt := 19) dX9_advance_34 (by decide) ?_
          exact ih (c + 1) _ (by omega) (hG1.tr hG2)
    exact loop x.toNat 0 G (by omega) N_ge.rf
  ·
    have b_8 : ¬ (1 ≤ x ∧ x ≤ 500) := ja_b_0.mp h_8
    refine r_sipush F (by decide) dX9_advance_11 rfl ?_
    exact r_iret F Rt dX9_advance_14 (by decide) ⟨by rw [if_neg b_8], rfl, rfl, G, N_ge.rf, by rw [if_neg b_8]⟩
abbrev rm_X9_keeps : Room := { frames := 0, cells := 0, slots := 0, locals := 0 }
set_option maxRecDepth 100000 in
set_option maxHeartbeats 800000 in
theorem c_X9_keeps (l : Launch) (D : va_G) (cA : Nat → ClassId) (B : Nat) {lay : ja_Y} {n : Nat} {m : Nat} {G : ja_M} {v : Nat → Int} (hM : ja_LM lay m)  : ja_Mt l D cA B yX9_keeps cX9_keeps 2 none rm_X9_keeps [.ref m] lay (ja_rw G (m + 1) v) n (ja_rd lay (ja_rw (ja_rw G (m + 2) v) (m + 1) v) n none) := by
  refine ja_enter [some (.ref m), none] (by decide) (Nat.le_of_ble_eq_true rfl) (fun q hq => hq) (fun C F Rt GC hnm => ?_)
  refine r_iconst F dX9_keeps_0 rfl ?_
  refine r_ist1 F (by decide) rfl dX9_keeps_1 rfl ?_
  have loop : ∀ (d c : Nat), c + d = 2484 → ja_W C 0 0 lay (ja_rw (ja_rw G (m + 2) (N_mix v (G (m + 2)) c)) (m + 1) v) n 2 [some (.ref m), some (.int (ja_I (c : Int)))] [] := by
    intro d
    induction d with
    | zero =>
      intro c hc
      refine r_iload_n F rfl rfl dX9_keeps_2 rfl ?_
      refine r_sipush F (by decide) dX9_keeps_3 rfl ?_
      refine r_icmp_ge F (tgt := 27) ⟨by omega, by omega⟩ ⟨by omega, by omega⟩ dX9_keeps_6 rfl (by decide) (fun h_6 => ?_) (fun h_6 => ?_)
      ·
        obtain rfl : c = 2484 := by omega
        rw [ja_rw_cm (by omega)]
        refine r_ext (ja_LM_2 hM) (g := v) (fun j hj => N_mix_in hj) ?_
        rw [ja_rw_cm (by omega)]
        exact r_vret F Rt dX9_keeps_27 (by decide) ⟨rfl, rfl, rfl, rfl⟩
      ·
        exfalso; omega
    | succ d ih =>
      intro c hc
      refine r_iload_n F rfl rfl dX9_keeps_2 rfl ?_
      refine r_sipush F (by decide) dX9_keeps_3 rfl ?_
      refine r_icmp_ge F (tgt := 27) ⟨by omega, by omega⟩ ⟨by omega, by omega⟩ dX9_keeps_6 rfl (by decide) (fun h_6 => ?_) (fun h_6 => ?_)
      ·
        exfalso; omega
      ·
        refine r_aload_n F rfl rfl dX9_keeps_9 rfl ?_
        refine r_getR F f_X9_13 (hM.1) rfl dX9_keeps_10 rfl ?_
        refine r_iload_n F rfl rfl dX9_keeps_13 rfl ?_
        refine r_aload_n F rfl rfl dX9_keeps_14 rfl ?_
        refine r_getR F f_X9_7 (hM.1) rfl dX9_keeps_15 rfl ?_
        refine r_iload_n F rfl rfl dX9_keeps_18 rfl ?_
        refine r_iald F (ja_LM_1 hM) (by omega) (by omega) (by decide) dX9_keeps_19 rfl ?_
        refine r_eqz (z := (v (Int.toNat (c : Int)))) (by rw [ja_rw_s]) ?_
        refine r_iast F (ja_LM_2 hM) (by omega) (by omega) (by decide) dX9_keeps_20 rfl ?_
        refine r_mem (mem' := ja_rw (ja_up (ja_rw G (m + 2) (N_mix v (G (m + 2)) c)) (m + 2) (Int.toNat (c : Int)) (v (Int.toNat (c : Int)))) (m + 1) v) (ja_up_rw (by omega)) ?_
        refine r_inc1 F (by decide) rfl dX9_keeps_21 rfl ?_
        refine r_goto F (tgt := 2) dX9_keeps_24 (by decide) ?_
        rw [ja_rw_up, ja_nat, N_mix_s]
        exact ih (c + 1) (by omega)
  have h0 := loop 2484 0 (by omega)
  rw [N_mix_0, ja_rw_self] at h0
  exact h0
abbrev rm_X9_brings : Room := { frames := 0, cells := 0, slots := 0, locals := 0 }
set_option maxRecDepth 100000 in
set_option maxHeartbeats 800000 in
theorem c_X9_brings (l : Launch) (D : va_G) (cA : Nat → ClassId) (B : Nat) {lay : ja_Y} {n : Nat} {m : Nat} {G : ja_M} {v : Nat → Int} (hM : ja_LM lay m) {u : Nat → Int} (hu : ∀ j : Nat, j < 2484 → G (m + 2) j = u j) : ja_Mt l D cA B yX9_brings cX9_brings 2 none rm_X9_brings [.ref m] lay (ja_rw G (m + 1) v) n (ja_rd lay (ja_rw G (m + 1) (u)) n (none)) := by
  refine ja_enter [some (.ref m), none] (by decide) (Nat.le_of_ble_eq_true rfl) (fun q hq => hq) (fun C F Rt GC hnm => ?_)
  refine r_iconst F dX9_brings_0 rfl ?_
  refine r_ist1 F (by decide) rfl dX9_brings_1 rfl ?_
  have loop : ∀ (d c : Nat), c + d = 2484 → ja_W C 0 0 lay (ja_rw G (m + 1) (N_mix (G (m + 2)) v c)) n 2 [some (.ref m), some (.int (ja_I (c : Int)))] [] := by
    intro d
    induction d with
    | zero =>
      intro c hc
      refine r_iload_n F rfl rfl dX9_brings_2 rfl ?_
      refine r_sipush F (by decide) dX9_brings_3 rfl ?_
      refine r_icmp_ge F (tgt := 27) ⟨by omega, by omega⟩ ⟨by omega, by omega⟩ dX9_brings_6 rfl (by decide) (fun h_6 => ?_) (fun h_6 => ?_)
      ·
        obtain rfl : c = 2484 := by omega
        refine r_ext (ja_LM_1 hM) (g := u) (fun j hj => (N_mix_in hj).trans (hu j hj)) ?_
        exact r_vret F Rt dX9_brings_27 (by decide) ⟨rfl, rfl, rfl, rfl⟩
      ·
        exfalso; omega
    | succ d ih =>
      intro c hc
      refine r_iload_n F rfl rfl dX9_brings_2 rfl ?_
      refine r_sipush F (by decide) dX9_brings_3 rfl ?_
      refine r_icmp_ge F (tgt := 27) ⟨by omega, by omega⟩ ⟨by omega, by omega⟩ dX9_brings_6 rfl (by decide) (fun h_6 => ?_) (fun h_6 => ?_)
      ·
        exfalso; omega
      ·
        refine r_aload_n F rfl rfl dX9_brings_9 rfl ?_
        refine r_getR F f_X9_7 (hM.1) rfl dX9_brings_10 rfl ?_
        refine r_iload_n F rfl rfl dX9_brings_13 rfl ?_
        refine r_aload_n F rfl rfl dX9_brings_14 rfl ?_
        refine r_getR F f_X9_13 (hM.1) rfl dX9_brings_15 rfl ?_
        refine r_iload_n F rfl rfl dX9_brings_18 rfl ?_
        refine r_iald F (ja_LM_2 hM) (by omega) (by omega) (by decide) dX9_brings_19 rfl ?_
        refine r_eqz (z := (G (m + 2) c)) (by rw [ja_rw_n (by omega), ja_nat]) ?_
        refine r_iast F (ja_LM_1 hM) (by omega) (by omega) (by decide) dX9_brings_20 rfl ?_
        refine r_mem (mem' := ja_rw G (m + 1) (ja_rs (N_mix (G (m + 2)) v c) (Int.toNat (c : Int)) (G (m + 2) c))) (ja_rw_up _ _ _ _ _) ?_
        refine r_inc1 F (by decide) rfl dX9_brings_21 rfl ?_
        refine r_goto F (tgt := 2) dX9_brings_24 (by decide) ?_
        rw [ja_nat, N_mix_s]
        exact ih (c + 1) (by omega)
  have h0 := loop 2484 0 (by omega)
  rw [N_mix_0] at h0
  exact h0
end
section
-- a reference's state at first
def N_v0 : Nat → Int := fun j => if j = 10 then -1 else if j = 8 then 1 else if j = 7 then 8 else if j = 6 then 90 else if j = 5 then 16 else if j = 4 then 4 else if j = 3 then 4 else if j = 2 then 25 else if j = 1 then 16 else if j = 0 then 8 else 0
def N_k1 (v : Nat → Int) : Int64 := B_m (B_m (B_m 41 (v 9)) (if v 10 < 0 then -1004 else v 10)) (v 12)
def N_k2 (v : Nat → Int) : Int64 := B_m (B_m (B_m (N_k1 v) (v 22 - v 23)) (if 999 < v 11 then -1004 else v 11)) (N_tg v)
def N_k3 (v : Nat → Int) : Int64 := B_m (B_m (N_k2 v) (if 999 < v 11 then 0 else N_lv v (v 11))) (v 24)
def N_k4 (v : Nat → Int) : Int64 := B_m (B_m (B_m (N_k3 v) (v 19)) (v 20)) (v 21)
def N_k5 (v : Nat → Int) : Int64 := B_m (B_m (B_m (N_k4 v) (v 15)) (v 16)) (v 17)
def N_k6 (v : Nat → Int) : Int64 := B_m (B_m (B_m (N_k5 v) (v 18)) (v 14)) (v 25)
def N_k7 (v : Nat → Int) : Int64 := B_cf (N_k6 v) (fun k => N_ou v ((k : Int) + 1)) 64
def N_k8 (v : Nat → Int) : Int64 := B_cf (N_k7 v) (fun k => N_ki v ((k : Int) + 1)) 16
def N_ck (v : Nat → Int) : Int64 := B_cf (N_k8 v) (fun k => v (30 + (k : Int)).toNat) 100
theorem N_gcd_in {a b : Int} (h : 1 ≤ b ∧ b ≤ 1000) : 1 ≤ (Nat.gcd a.toNat b.toNat : Nat) ∧ (Nat.gcd a.toNat b.toNat : Nat) ≤ 1000 := by
  have h1 := Nat.gcd_pos_of_pos_right a.toNat (show 0 < b.toNat by omega)
  have h2 := Nat.gcd_le_right a.toNat (show 0 < b.toNat by omega)
  omega
theorem N_emod_c (a b : Nat) : (a : Int) % (b : Int) = ((a % b : Nat) : Int) := (Int.natCast_emod a b).symm
end
section
abbrev rm_X9_unrestorable : Room := { frames := 5, cells := 0, slots := 0, locals := 119 }
set_option maxRecDepth 100000 in
set_option maxHeartbeats 800000 in
theorem c_X9_unrestorable (l : Launch) (D : va_G) (cA : Nat → ClassId) (B : Nat) {lay : ja_Y} {n : Nat} {m : Nat} {G : ja_M} {v : Nat → Int} (hM : ja_LM lay m) {k : Int} (hR : N_R v) (hk : ja_in k) : ja_Mt l D cA B yX9_unrestorable cX9_unrestorable 5 (some .int) rm_X9_unrestorable [.ref m, .int (ja_I k)] lay (ja_rw G (m + 1) v) n (N_pp lay m n G v (some (.int (ja_I (if N_hB v k then N_ur v k else -1001))))) := by
  refine ja_enter [some (.ref m), some (.int (ja_I k)), none, none, none] (by decide) (Nat.le_of_ble_eq_true rfl) (fun q hq => hq) (fun C F Rt GC hnm => ?_)
  have hC := hR.C
  have hS := hR.S
  obtain ⟨k1_, k2_⟩ := id hk
  have ha := N_ar_in hS
  have hd0 := Int.ediv_nonneg (show (0 : Int) ≤ 999 by omega) (show 0 ≤ N_ar v by omega)
  have hd1 := Int.ediv_le_self (N_ar v) (show (0 : Int) ≤ 999 by omega)
  refine r_iload_n F rfl rfl dX9_unrestorable_0 rfl ?_
  refine r_iconst F dX9_unrestorable_1 rfl ?_
  refine r_sipush F (by decide) dX9_unrestorable_2 rfl ?_
  refine r_aload_n F rfl rfl dX9_unrestorable_5 rfl ?_
  refine r_callV F GC (c_X9_area _ _ _ _ hM hS) v_X9_47 rfl (hM.1) rfl (by decide) (by decide) (Nat.le_of_ble_eq_true rfl) rfl dX9_unrestorable_6 rfl (fun v lay' mem' n' hp => ?_)
  obtain ⟨q1, q2, q3, q4⟩ := hp
  subst q1; subst q2; subst q3; subst q4
  refine r_idivP F ⟨by omega, by omega⟩ ⟨by omega, by omega⟩ (by omega) (by omega) dX9_unrestorable_9 rfl ?_
  refine r_callS F GC (c_X9_in _ _ _ _ ⟨by omega, by omega⟩ ⟨by omega, by omega⟩ ⟨by omega, by omega⟩) s_X9_35 rfl (by decide) (by decide) (Nat.le_of_ble_eq_true rfl) rfl dX9_unrestorable_10 rfl (fun v lay' mem' n' hp => ?_)
  obtain ⟨q1, q2, q3, q4⟩ := hp
  subst q1; subst q2; subst q3; subst q4
  refine r_if_ne F (tgt := 20) ja_b_in dX9_unrestorable_13 rfl (by decide) (fun h_13 => ?_) (fun h_13 => ?_)
  ·
    have b_13 : (0 ≤ k ∧ k ≤ (999 / (N_ar v))) := ja_b_1 h_13
    refine r_aload_n F rfl rfl dX9_unrestorable_20 rfl ?_
    refine r_callV F GC (c_X9_keeps _ _ _ _ hM) v_X9_144 rfl (hM.1) rfl (by decide) (by decide) (Nat.le_of_ble_eq_true rfl) rfl dX9_unrestorable_21 rfl (fun v lay' mem' n' hp => ?_)
    obtain ⟨q1, q2, q3, q4⟩ := hp
    subst q1; subst q2; subst q3; subst q4
    refine r_aload_n F rfl rfl dX9_unrestorable_24 rfl ?_
    refine r_iload_n F rfl rfl dX9_unrestorable_25 rfl ?_
    refine r_iconst F dX9_unrestorable_26 rfl ?_
    refine r_callV F GC (c_X9_restores _ _ _ _ hM hR b_13 ⟨by omega, by omega⟩) v_X9_80 rfl (hM.1) rfl (by decide) (by decide) (Nat.le_of_ble_eq_true rfl) rfl dX9_unrestorable_27 rfl (fun v lay' mem' n' hp => ?_)
    obtain ⟨q1, q2, q3, q4⟩ := hp
    subst q1; subst q2; subst q3; subst q4
    have hfr := N_rs_fr (a := 1) 40 0 v hS b_13
    have hur := hfr.R hR
    have hus := hfr.ss
    have hbk := N_bk hS b_13
    refine r_ist2 F (by decide) rfl dX9_unrestorable_30 rfl ?_
    refine r_iconst F dX9_unrestorable_31 rfl ?_
    refine r_ist3 F (by decide) rfl dX9_unrestorable_32 rfl ?_
    refine r_iconst F dX9_unrestorable_33 rfl ?_
    refine r_ist4 F (by decide) rfl dX9_unrestorable_34 rfl ?_
    have loop : ∀ (d c : Nat), c + d = (N_ar v).toNat → ja_W C 0 0 lay (ja_rw (ja_rw G (m + 2) v) (m + 1) ((N_rs 1 k 40 0 v).2)) n 36 [some (.ref (m)), some (.int (ja_I (k))), none, some (.int (ja_I (((N_un (N_rs 1 k 40 0 v).2 (N_ar v * k) c : Nat) : Int)))), some (.int (ja_I ((c : Int))))] [] := by
      intro d
      induction d with
      | zero =>
        intro c hc
        refine r_iload F rfl dX9_unrestorable_36 rfl ?_
        refine r_aload_n F rfl rfl dX9_unrestorable_38 rfl ?_
        refine r_callV F GC (c_X9_area _ _ _ _ hM hur.S) v_X9_47 rfl (hM.1) rfl (by decide) (by decide) (Nat.le_of_ble_eq_true rfl) rfl dX9_unrestorable_39 rfl (fun v lay' mem' n' hp => ?_)
        obtain ⟨q1, q2, q3, q4⟩ := hp
        subst q1; subst q2; subst q3; subst q4
        refine r_eqz (z := N_ar v) hus.ar ?_
        refine r_icmp_ge F (tgt := 75) ⟨by omega, by omega⟩ ⟨by omega, by omega⟩ dX9_unrestorable_42 rfl (by decide) (fun h_42 => ?_) (fun h_42 => ?_)
        ·
          refine r_aload_n F rfl rfl dX9_unrestorable_75 rfl ?_
          refine r_callV F GC (c_X9_brings _ _ _ _ hM (fun j _ => by rw [ja_rw_s])) v_X9_147 rfl (hM.1) rfl (by decide) (by decide) (Nat.le_of_ble_eq_true rfl) rfl dX9_unrestorable_76 rfl (fun v lay' mem' n' hp => ?_)
          obtain ⟨q1, q2, q3, q4⟩ := hp
          subst q1; subst q2; subst q3; subst q4
          refine r_iload_n F rfl rfl dX9_unrestorable_79 rfl ?_
          exact r_iret F Rt dX9_unrestorable_80 (by decide) ⟨by rw [if_pos (show N_hB v k from b_13), N_ur, show (N_ar v).toNat = c by omega], rfl, rfl, _, N_gp.rw2, rfl⟩
        ·
          exfalso; omega
      | succ d ih =>
        intro c hc
        refine r_iload F rfl dX9_unrestorable_36 rfl ?_
        refine r_aload_n F rfl rfl dX9_unrestorable_38 rfl ?_
        refine r_callV F GC (c_X9_area _ _ _ _ hM hur.S) v_X9_47 rfl (hM.1) rfl (by decide) (by decide) (Nat.le_of_ble_eq_true rfl) rfl dX9_unrestorable_39 rfl (fun v lay' mem' n' hp => ?_)
        obtain ⟨q1, q2, q3, q4⟩ := hp
        subst q1; subst q2; subst q3; subst q4
        refine r_eqz (z := N_ar v) hus.ar ?_
        refine r_icmp_ge F (tgt := 75) ⟨by omega, by omega⟩ ⟨by omega, by omega⟩ dX9_unrestorable_42 rfl (by decide) (fun h_42 => ?_) (fun h_42 => ?_)
        ·
          exfalso; omega
        ·
          refine r_iload_n F rfl rfl dX9_unrestorable_45 rfl ?_
          refine r_aload_n F rfl rfl dX9_unrestorable_46 rfl ?_
          refine r_aload_n F rfl rfl dX9_unrestorable_47 rfl ?_
          refine r_callV F GC (c_X9_area _ _ _ _ hM hur.S) v_X9_47 rfl (hM.1) rfl (by decide) (by decide) (Nat.le_of_ble_eq_true rfl) rfl dX9_unrestorable_48 rfl (fun v lay' mem' n' hp => ?_)
          obtain ⟨q1, q2, q3, q4⟩ := hp
          subst q1; subst q2; subst q3; subst q4
          refine r_eqz (z := N_ar v) hus.ar ?_
          refine r_iload_n F rfl rfl dX9_unrestorable_51 rfl ?_
          refine r_imul F dX9_unrestorable_52 rfl ?_
          refine r_iload F rfl dX9_unrestorable_53 rfl ?_
          refine r_iadd F dX9_unrestorable_55 rfl ?_
          refine r_callV F GC (c_X9_isKnown _ _ _ _ hM hur ⟨by omega, by omega⟩) v_X9_59 rfl (hM.1) rfl (by decide) (by decide) (Nat.le_of_ble_eq_true rfl) rfl dX9_unrestorable_56 rfl (fun v lay' mem' n' hp => ?_)
          obtain ⟨q1, q2, q3, q4⟩ := hp
          subst q1; subst q2; subst q3; subst q4
          refine r_if_eq F (tgt := 66) ja_b_in dX9_unrestorable_59 rfl (by decide) (fun h_59 => ?_) (fun h_59 => ?_)
          ·
            have b_59 : ¬ (N_kn (N_rs 1 k 40 0 v).2 ((N_ar v * k) + (c : Int))) := ja_b_0.mp h_59
            refine r_iconst F dX9_unrestorable_66 rfl ?_
            refine r_iadd F dX9_unrestorable_67 rfl ?_
            refine r_ist3 F (by decide) rfl dX9_unrestorable_68 rfl ?_
            refine r_inc4 F (by decide) rfl dX9_unrestorable_69 rfl ?_
            refine r_goto F (tgt := 36) dX9_unrestorable_72 (by decide) ?_
            have h0 := ih (c + 1) (by omega)
            simp only [N_un] at h0
            first
              | (rw [if_pos b_59, Nat.add_zero] at h0; rw [Int.add_zero]; exact h0)
              | (rw [if_neg b_59] at h0; rw [show ((N_un (N_rs 1 k 40 0 v).2 (N_ar v * k) c : Nat) : Int) + 1 = ((N_un (N_rs 1 k 40 0 v).2 (N_ar v * k) c + 1 : Nat) : Int) by omega]; exact h0)
          ·
            have b_59 : (N_kn (N_rs 1 k 40 0 v).2 ((N_ar v * k) + (c : Int))) := ja_b_1 h_59
            refine r_iconst F dX9_unrestorable_62 rfl ?_
            refine r_goto F (tgt := 67) dX9_unrestorable_63 (by decide) ?_
            refine r_iadd F dX9_unrestorable_67 rfl ?_
            refine r_ist3 F (by decide) rfl dX9_unrestorable_68 rfl ?_
            refine r_inc4 F (by decide) rfl dX9_unrestorable_69 rfl ?_
            refine r_goto F (tgt := 36) dX9_unrestorable_72 (by decide) ?_
            have h0 := ih (c + 1) (by omega)
            simp only [N_un] at h0
            first
              | (rw [if_pos b_59, Nat.add_zero] at h0; rw [Int.add_zero]; exact h0)
              | (rw [if_neg b_59] at h0; rw [show ((N_un (N_rs 1 k 40 0 v).2 (N_ar v * k) c : Nat) : Int) + 1 = ((N_un (N_rs 1 k 40 0 v).2 (N_ar v * k) c + 1 : Nat) : Int) by omega]; exact h0)
    refine r_msk [true, true, false, true, true] rfl ?_
    exact loop (N_ar v).toNat 0 (by omega)
  ·
    have b_13 : ¬ (0 ≤ k ∧ k ≤ (999 / (N_ar v))) := ja_b_0.mp h_13
    refine r_sipush F (by decide) dX9_unrestorable_16 rfl ?_
    exact r_iret F Rt dX9_unrestorable_19 (by decide) ⟨by rw [if_neg b_13], rfl, rfl, G, fun _ _ _ _ => rfl, rfl⟩
abbrev rm_X9_paritySample : Room := { frames := 2, cells := 0, slots := 0, locals := 45 }
set_option maxRecDepth 100000 in
set_option maxHeartbeats 800000 in
theorem c_X9_paritySample (l : Launch) (D : va_G) (cA : Nat → ClassId) (B : Nat) {lay : ja_Y} {n : Nat} {m : Nat} {G : ja_M} {v : Nat → Int} (hM : ja_LM lay m) {r k i p : Int} (hR : N_R v) (h01 : 0 ≤ r ∧ r ≤ 1) (hk : ja_in k) (hi : ja_in i) (hp : ja_in p) : ja_Mt l D cA B yX9_paritySample cX9_paritySample 8 (some .int) rm_X9_paritySample [.ref m, .int (ja_I r), .int (ja_I k), .int (ja_I i), .int (ja_I p)] lay (ja_rw G (m + 1) v) n (ja_rd lay (ja_rw G (m + 1) v) n (some (.int (ja_I (if N_hP v r k i ∧ 0 ≤ p ∧ p ≤ v 0 - 1 then N_ps v r k i p (N_cs v r).toNat else -1001))))) := by
  refine ja_enter [some (.ref m), some (.int (ja_I r)), some (.int (ja_I k)), some (.int (ja_I i)), some (.int (ja_I p)), none, none, none] (by decide) (Nat.le_of_ble_eq_true rfl) (fun q hq => hq) (fun C F Rt GC hnm => ?_)
  have hC := hR.C
  have hS := hR.S
  obtain ⟨k1_, k2_⟩ := id hk
  obtain ⟨i1_, i2_⟩ := id hi
  obtain ⟨p1_, p2_⟩ := id hp
  have hcs := @N_cs_in v r hS
  refine r_aload_n F rfl rfl dX9_paritySample_0 rfl ?_
  refine r_iload_n F rfl rfl dX9_paritySample_1 rfl ?_
  refine r_iload_n F rfl rfl dX9_paritySample_2 rfl ?_
  refine r_iload_n F rfl rfl dX9_paritySample_3 rfl ?_
  refine r_callV F GC (c_X9_isPacket _ _ _ _ hM hS h01 hk hi) v_X9_91 rfl (hM.1) rfl (by decide) (by decide) (Nat.le_of_ble_eq_true rfl) rfl dX9_paritySample_4 rfl (fun v lay' mem' n' hp => ?_)
  obtain ⟨q1, q2, q3, q4⟩ := hp
  subst q1; subst q2; subst q3; subst q4
  refine r_if_eq F (tgt := 27) ja_b_in dX9_paritySample_7 rfl (by decide) (fun h_7 => ?_) (fun h_7 => ?_)
  ·
    have b_7 : ¬ (N_hP v r k i) := ja_b_0.mp h_7
    have c2 : ¬ (N_hP v r k i ∧ 0 ≤ p ∧ p ≤ v 0 - 1) := fun q => b_7 q.1
    refine r_sipush F (by decide) dX9_paritySample_27 rfl ?_
    exact r_iret F Rt dX9_paritySample_30 (by decide) ⟨by rw [if_neg c2], rfl, rfl, rfl⟩
  ·
    have b_7 : (N_hP v r k i) := ja_b_1 h_7
    refine r_iload F rfl dX9_paritySample_10 rfl ?_
    refine r_iconst F dX9_paritySample_12 rfl ?_
    refine r_aload_n F rfl rfl dX9_paritySample_13 rfl ?_
    refine r_getR F f_X9_7 (hM.1) rfl dX9_paritySample_14 rfl ?_
    refine r_iconst F dX9_paritySample_17 rfl ?_
    refine r_iald F (ja_LM_1 hM) (by omega) (by omega) (by decide) dX9_paritySample_18 rfl ?_
    refine r_eqz (z := (v 0)) (by rw [ja_rw_s, show Int.toNat 0 = 0 from rfl]) ?_
    refine r_iconst F dX9_paritySample_19 rfl ?_
    refine r_isub F dX9_paritySample_20 rfl ?_
    refine r_callS F GC (c_X9_in _ _ _ _ ⟨by omega, by omega⟩ ⟨by omega, by omega⟩ ⟨by omega, by omega⟩) s_X9_35 rfl (by decide) (by decide) (Nat.le_of_ble_eq_true rfl) rfl dX9_paritySample_21 rfl (fun v lay' mem' n' hp => ?_)
    obtain ⟨q1, q2, q3, q4⟩ := hp
    subst q1; subst q2; subst q3; subst q4
    refine r_if_ne F (tgt := 31) ja_b_in dX9_paritySample_24 rfl (by decide) (fun h_24 => ?_) (fun h_24 => ?_)
    ·
      have b_24 : (0 ≤ p ∧ p ≤ ((v 0) - 1)) := ja_b_1 h_24
      have c2 : N_hP v r k i ∧ 0 ≤ p ∧ p ≤ v 0 - 1 := ⟨b_7, b_24⟩
      refine r_iconst F dX9_paritySample_31 rfl ?_
      refine r_ist5 F (by decide) rfl dX9_paritySample_32 rfl ?_
      refine r_iconst F dX9_paritySample_34 rfl ?_
      refine r_ist6 F (by decide) rfl dX9_paritySample_35 rfl ?_
      have loop : ∀ (d c : Nat), c + d = (N_cs v r).toNat → ja_W C 0 0 lay (ja_rw G (m + 1) (v)) n 37 [some (.ref (m)), some (.int (ja_I (r))), some (.int (ja_I (k))), some (.int (ja_I (i))), some (.int (ja_I (p))), some (.int (ja_I (N_ps v r k i p c))), some (.int (ja_I ((c : Int)))), none] [] := by
        intro d
        induction d with
        | zero =>
          intro c hc
          refine r_iload F rfl dX9_paritySample_37 rfl ?_
          refine r_aload_n F rfl rfl dX9_paritySample_39 rfl ?_
          refine r_iload_n F rfl rfl dX9_paritySample_40 rfl ?_
          refine r_callV F GC (c_X9_covers _ _ _ _ hM h01) v_X9_51 rfl (hM.1) rfl (by decide) (by decide) (Nat.le_of_ble_eq_true rfl) rfl dX9_paritySample_41 rfl (fun v lay' mem' n' hp => ?_)
          obtain ⟨q1, q2, q3, q4⟩ := hp
          subst q1; subst q2; subst q3; subst q4
          refine r_icmp_ge F (tgt := 93) ⟨by omega, by omega⟩ ⟨by omega, by omega⟩ dX9_paritySample_44 rfl (by decide) (fun h_44 => ?_) (fun h_44 => ?_)
          ·
            refine r_iload F rfl dX9_paritySample_93 rfl ?_
            exact r_iret F Rt dX9_paritySample_95 (by decide) ⟨by rw [if_pos c2, show (N_cs v r).toNat = c by omega], rfl, rfl, rfl⟩
          ·
            exfalso; omega
        | succ d ih =>
          intro c hc
          have hcv := N_cv_in (r := r) (j := (c : Int)) hS b_7.1 (N_hP_6 hS b_7) ⟨by omega, by omega⟩
          refine r_iload F rfl dX9_paritySample_37 rfl ?_
          refine r_aload_n F rfl rfl dX9_paritySample_39 rfl ?_
          refine r_iload_n F rfl rfl dX9_paritySample_40 rfl ?_
          refine r_callV F GC (c_X9_covers _ _ _ _ hM h01) v_X9_51 rfl (hM.1) rfl (by decide) (by decide) (Nat.le_of_ble_eq_true rfl) rfl dX9_paritySample_41 rfl (fun v lay' mem' n' hp => ?_)
          obtain ⟨q1, q2, q3, q4⟩ := hp
          subst q1; subst q2; subst q3; subst q4
          refine r_icmp_ge F (tgt := 93) ⟨by omega, by omega⟩ ⟨by omega, by omega⟩ dX9_paritySample_44 rfl (by decide) (fun h_44 => ?_) (fun h_44 => ?_)
          ·
            exfalso; omega
          ·
            refine r_aload_n F rfl rfl dX9_paritySample_47 rfl ?_
            refine r_iload_n F rfl rfl dX9_paritySample_48 rfl ?_
            refine r_iload_n F rfl rfl dX9_paritySample_49 rfl ?_
            refine r_iload_n F rfl rfl dX9_paritySample_50 rfl ?_
            refine r_iload F rfl dX9_paritySample_51 rfl ?_
            refine r_callV F GC (c_X9_covered _ _ _ _ hM hS h01) v_X9_55 rfl (hM.1) rfl (by decide) (by decide) (Nat.le_of_ble_eq_true rfl) rfl dX9_paritySample_53 rfl (fun v lay' mem' n' hp => ?_)
            obtain ⟨q1, q2, q3, q4⟩ := hp
            subst q1; subst q2; subst q3; subst q4
            refine r_ist7 F (by decide) rfl dX9_paritySample_56 rfl ?_
            refine r_iload F rfl dX9_paritySample_58 rfl ?_
            refine r_iload F rfl dX9_paritySample_60 rfl ?_
            refine r_sipush F (by decide) dX9_paritySample_62 rfl ?_
            refine r_icmp_le F (tgt := 72) ⟨by omega, by omega⟩ ⟨by omega, by omega⟩ dX9_paritySample_65 rfl (by decide) (fun h_65 => ?_) (fun h_65 => ?_)
            ·
              refine r_aload_n F rfl rfl dX9_paritySample_72 rfl ?_
              refine r_iload F rfl dX9_paritySample_73 rfl ?_
              refine r_iload F rfl dX9_paritySample_75 rfl ?_
              refine r_callV F GC (c_X9_sampleOf _ _ _ _ hM hS ⟨by omega, by omega⟩ ⟨by omega, by omega⟩) v_X9_104 rfl (hM.1) rfl (by decide) (by decide) (Nat.le_of_ble_eq_true rfl) rfl dX9_paritySample_77 rfl (fun v lay' mem' n' hp => ?_)
              obtain ⟨q1, q2, q3, q4⟩ := hp
              subst q1; subst q2; subst q3; subst q4
              refine r_sipush F (by decide) dX9_paritySample_80 rfl ?_
              refine r_iadd F dX9_paritySample_83 rfl ?_
              refine r_ixor F (ja_of' _) dX9_paritySample_84 rfl ?_
              refine r_ist5 F (by decide) rfl dX9_paritySample_85 rfl ?_
              refine r_inc6 F (by decide) rfl dX9_paritySample_87 rfl ?_
              refine r_goto F (tgt := 37) dX9_paritySample_90 (by decide) ?_
              refine r_msk [true, true, true, true, true, true, true, false] rfl ?_
              have h0 := ih (c + 1) (by omega)
              simp only [N_ps] at h0
              first
                | (rw [if_neg (by omega)] at h0; exact h0)
                | (rw [if_pos (by omega)] at h0; exact h0)
            ·
              refine r_iconst F dX9_paritySample_68 rfl ?_
              refine r_goto F (tgt := 84) dX9_paritySample_69 (by decide) ?_
              refine r_ixor F (ja_of' _) dX9_paritySample_84 rfl ?_
              refine r_ist5 F (by decide) rfl dX9_paritySample_85 rfl ?_
              refine r_inc6 F (by decide) rfl dX9_paritySample_87 rfl ?_
              refine r_goto F (tgt := 37) dX9_paritySample_90 (by decide) ?_
              refine r_msk [true, true, true, true, true, true, true, false] rfl ?_
              have h0 := ih (c + 1) (by omega)
              simp only [N_ps] at h0
              first
                | (rw [if_neg (by omega)] at h0; exact h0)
                | (rw [if_pos (by omega)] at h0; exact h0)
      exact loop ((N_cs v r).toNat) 0 (by omega)
    ·
      have b_24 : ¬ (0 ≤ p ∧ p ≤ ((v 0) - 1)) := ja_b_0.mp h_24
      have c2 : ¬ (N_hP v r k i ∧ 0 ≤ p ∧ p ≤ v 0 - 1) := fun q => b_24 q.2
      refine r_sipush F (by decide) dX9_paritySample_27 rfl ?_
      exact r_iret F Rt dX9_paritySample_30 (by decide) ⟨by rw [if_neg c2], rfl, rfl, rfl⟩
abbrev rm_X9_loss : Room := { frames := 0, cells := 0, slots := 0, locals := 0 }
set_option maxRecDepth 100000 in
set_option maxHeartbeats 800000 in
theorem c_X9_loss (l : Launch) (D : va_G) (cA : Nat → ClassId) (B : Nat) {lay : ja_Y} {n : Nat} {m : Nat} {G : ja_M} {v : Nat → Int} (hM : ja_LM lay m) {d : Int} (hR : N_R v) (hd : 0 ≤ d ∧ d ≤ 1) : ja_Mt l D cA B yX9_loss cX9_loss 6 (some .int) rm_X9_loss [.ref m, .int (ja_I d)] lay (ja_rw G (m + 1) v) n (ja_rd lay (ja_rw G (m + 1) v) n (some (.int (ja_I (N_ls v d))))) := by
  refine ja_enter [some (.ref m), some (.int (ja_I d)), none, none, none, none] (by decide) (Nat.le_of_ble_eq_true rfl) (fun q hq => hq) (fun C F Rt GC hnm => ?_)
  have hC := hR.C
  have hS := hR.S
  refine r_aload_n F rfl rfl dX9_loss_0 rfl ?_
  refine r_getR F f_X9_7 (hM.1) rfl dX9_loss_1 rfl ?_
  refine r_bipush F (by decide) dX9_loss_4 rfl ?_
  refine r_iald F (ja_LM_1 hM) (by omega) (by omega) (by decide) dX9_loss_6 rfl ?_
  refine r_eqz (z := (v 21)) (by rw [ja_rw_s, show Int.toNat 21 = 21 from rfl]) ?_
  refine r_ist2 F (by decide) rfl dX9_loss_7 rfl ?_
  refine r_iload_n F rfl rfl dX9_loss_8 rfl ?_
  refine r_if_ne F (tgt := 22) ⟨by omega, by omega⟩ dX9_loss_9 rfl (by decide) (fun h_9 => ?_) (fun h_9 => ?_)
  ·
    refine r_iload_n F rfl rfl dX9_loss_22 rfl ?_
    refine r_eqz (z := (((v 21).toNat : Nat) : Int)) (by omega) ?_
    refine r_ist3 F (by decide) rfl dX9_loss_23 rfl ?_
    refine r_aload_n F rfl rfl dX9_loss_24 rfl ?_
    refine r_getR F f_X9_7 (hM.1) rfl dX9_loss_25 rfl ?_
    refine r_bipush F (by decide) dX9_loss_28 rfl ?_
    refine r_iald F (ja_LM_1 hM) (by omega) (by omega) (by decide) dX9_loss_30 rfl ?_
    refine r_eqz (z := (v 11)) (by rw [ja_rw_s, show Int.toNat 11 = 11 from rfl]) ?_
    refine r_eqz (z := (((v 11).toNat : Nat) : Int)) (by omega) ?_
    refine r_ist4 F (by decide) rfl dX9_loss_31 rfl ?_
    have loop : ∀ (b a : Nat), a ≤ 1000 → b ≤ 1000 → Nat.gcd b a = Nat.gcd (v 11).toNat (v 21).toNat → ja_W C 0 0 lay (ja_rw G (m + 1) v) n 33 [some (.ref m), some (.int (ja_I d)), some (.int (ja_I (v 21))), some (.int (ja_I (a : Int))), some (.int (ja_I (b : Int))), none] [] := by
      intro b
      induction b using Nat.strongRecOn with
      | ind b ih =>
        intro a ha hb hg
        refine r_iload F rfl dX9_loss_33 rfl ?_
        refine r_if_eq F (tgt := 54) ⟨by omega, by omega⟩ dX9_loss_35 rfl (by decide) (fun h_35 => ?_) (fun h_35 => ?_)
        ·
          obtain rfl : b = 0 := by omega
          rw [Nat.gcd_zero_left] at hg
          have hgi := N_gcd_in (a := v 11) (b := v 21) ⟨by omega, by omega⟩
          rw [← hg] at hgi
          refine r_iload_n F rfl rfl dX9_loss_54 rfl ?_
          refine r_if_eq F (tgt := 70) ⟨by omega, by omega⟩ dX9_loss_55 rfl (by decide) (fun h_55 => ?_) (fun h_55 => ?_)
          ·
            refine r_iload_n F rfl rfl dX9_loss_70 rfl ?_
            refine r_iload_n F rfl rfl dX9_loss_71 rfl ?_
            refine r_idivP F ⟨by omega, by omega⟩ ⟨by omega, by omega⟩ (by omega) (by omega) dX9_loss_72 rfl ?_
            exact r_iret F Rt dX9_loss_73 (by decide) ⟨by rw [N_ls, if_neg h_9, ← hg]; first | rw [if_pos h_55] | rw [if_neg h_55], rfl, rfl, rfl⟩
          ·
            refine r_aload_n F rfl rfl dX9_loss_58 rfl ?_
            refine r_getR F f_X9_7 (hM.1) rfl dX9_loss_59 rfl ?_
            refine r_bipush F (by decide) dX9_loss_62 rfl ?_
            refine r_iald F (ja_LM_1 hM) (by omega) (by omega) (by decide) dX9_loss_64 rfl ?_
            refine r_eqz (z := (v 11)) (by rw [ja_rw_s, show Int.toNat 11 = 11 from rfl]) ?_
            refine r_iload_n F rfl rfl dX9_loss_65 rfl ?_
            refine r_idivP F ⟨by omega, by omega⟩ ⟨by omega, by omega⟩ (by omega) (by omega) dX9_loss_66 rfl ?_
            refine r_goto F (tgt := 73) dX9_loss_67 (by decide) ?_
            exact r_iret F Rt dX9_loss_73 (by decide) ⟨by rw [N_ls, if_neg h_9, ← hg]; first | rw [if_pos h_55] | rw [if_neg h_55], rfl, rfl, rfl⟩
        ·
          refine r_iload_n F rfl rfl dX9_loss_38 rfl ?_
          refine r_iload F rfl dX9_loss_39 rfl ?_
          refine r_iremP F ⟨by omega, by omega⟩ ⟨by omega, by omega⟩ (by omega) (by omega) dX9_loss_41 rfl ?_
          refine r_ist5 F (by decide) rfl dX9_loss_42 rfl ?_
          refine r_iload F rfl dX9_loss_44 rfl ?_
          refine r_ist3 F (by decide) rfl dX9_loss_46 rfl ?_
          refine r_iload F rfl dX9_loss_47 rfl ?_
          refine r_ist4 F (by decide) rfl dX9_loss_49 rfl ?_
          refine r_goto F (tgt := 33) dX9_loss_51 (by decide) ?_
          refine r_msk [true, true, true, true, true, false] rfl ?_
          have hlt := Nat.mod_lt a (show 0 < b by omega)
          rw [N_emod_c]
          exact ih (a % b) hlt b hb (by omega) (by rw [← hg]; exact (Nat.gcd_rec b a).symm)
    exact loop (v 11).toNat (v 21).toNat (by omega) (by omega) rfl
  ·
    refine r_iload_n F rfl rfl dX9_loss_12 rfl ?_
    refine r_if_eq F (tgt := 20) ⟨by omega, by omega⟩ dX9_loss_13 rfl (by decide) (fun h_13 => ?_) (fun h_13 => ?_)
    ·
      refine r_iconst F dX9_loss_20 rfl ?_
      exact r_iret F Rt dX9_loss_21 (by decide) ⟨by rw [N_ls, if_pos h_9]; first | rw [if_pos h_13] | rw [if_neg h_13], rfl, rfl, rfl⟩
    ·
      refine r_iconst F dX9_loss_16 rfl ?_
      refine r_goto F (tgt := 21) dX9_loss_17 (by decide) ?_
      exact r_iret F Rt dX9_loss_21 (by decide) ⟨by rw [N_ls, if_pos h_9]; first | rw [if_pos h_13] | rw [if_neg h_13], rfl, rfl, rfl⟩
abbrev rm_X9_ticksToGap : Room := { frames := 8, cells := 0, slots := 0, locals := 189 }
set_option maxRecDepth 100000 in
set_option maxHeartbeats 800000 in
theorem c_X9_ticksToGap (l : Launch) (D : va_G) (cA : Nat → ClassId) (B : Nat) {lay : ja_Y} {n : Nat} {m : Nat} {G : ja_M} {v : Nat → Int} (hM : ja_LM lay m) {t : Int} (hO : N_O v t) (ht : t ≤ 898000)  : ja_Mt l D cA B yX9_ticksToGap cX9_ticksToGap 4 (some .int) rm_X9_ticksToGap [.ref m] lay (ja_rw G (m + 1) v) n (N_pp lay m n G v (some (.int (ja_I (N_xg 1000 0 v))))) := by
  refine ja_enter [some (.ref m), none, none, none] (by decide) (Nat.le_of_ble_eq_true rfl) (fun q hq => hq) (fun C F Rt GC hnm => ?_)
  have hR := hO.1
  refine r_aload_n F rfl rfl dX9_ticksToGap_0 rfl ?_
  refine r_callV F GC (c_X9_keeps _ _ _ _ hM) v_X9_144 rfl (hM.1) rfl (by decide) (by decide) (Nat.le_of_ble_eq_true rfl) rfl dX9_ticksToGap_1 rfl (fun v lay' mem' n' hp => ?_)
  obtain ⟨q1, q2, q3, q4⟩ := hp
  subst q1; subst q2; subst q3; subst q4
  refine r_sipush F (by decide) dX9_ticksToGap_4 rfl ?_
  refine r_ist1 F (by decide) rfl dX9_ticksToGap_7 rfl ?_
  refine r_iconst F dX9_ticksToGap_8 rfl ?_
  refine r_ist2 F (by decide) rfl dX9_ticksToGap_9 rfl ?_
  have loop : ∀ (d k : Nat) (w : Nat → Int) (G1 : ja_M), k + d = 1000 → N_gp m G G1 → (∀ j : Nat, j < 2484 → G1 (m + 2) j = v j) → N_O w (t + k) → N_xg d k w = N_xg 1000 0 v → ja_W C 0 0 lay (ja_rw G1 (m + 1) w) n 10 [some (.ref m), some (.int (ja_I (-1004))), some (.int (ja_I (k : Int))), none] [] := by
    intro d
    induction d with
    | zero =>
      intro k w G1 hk hgp hsp hwO hl
      have hwR := hwO.1
      refine r_iload_n F rfl rfl dX9_ticksToGap_10 rfl ?_
      refine r_sipush F (by decide) dX9_ticksToGap_11 rfl ?_
      refine r_icmp_ge F (tgt := 49) ⟨by omega, by omega⟩ ⟨by omega, by omega⟩ dX9_ticksToGap_14 rfl (by decide) (fun h_14 => ?_) (fun h_14 => ?_)
      ·
        refine r_aload_n F rfl rfl dX9_ticksToGap_49 rfl ?_
        refine r_callV F GC (c_X9_brings _ _ _ _ hM hsp) v_X9_147 rfl (hM.1) rfl (by decide) (by decide) (Nat.le_of_ble_eq_true rfl) rfl dX9_ticksToGap_50 rfl (fun v lay' mem' n' hp => ?_)
        obtain ⟨q1, q2, q3, q4⟩ := hp
        subst q1; subst q2; subst q3; subst q4
        refine r_iload_n F rfl rfl dX9_ticksToGap_53 rfl ?_
        exact r_iret F Rt dX9_ticksToGap_54 (by decide) ⟨by rw [← hl]; rfl, rfl, rfl, G1, hgp, rfl⟩
      ·
        exfalso; omega
    | succ d ih =>
      intro k w G1 hk hgp hsp hwO hl
      have hwR := hwO.1
      refine r_iload_n F rfl rfl dX9_ticksToGap_10 rfl ?_
      refine r_sipush F (by decide) dX9_ticksToGap_11 rfl ?_
      refine r_icmp_ge F (tgt := 49) ⟨by omega, by omega⟩ ⟨by omega, by omega⟩ dX9_ticksToGap_14 rfl (by decide) (fun h_14 => ?_) (fun h_14 => ?_)
      ·
        exfalso; omega
      ·
        refine r_iload_n F rfl rfl dX9_ticksToGap_17 rfl ?_
        refine r_if_ge F (tgt := 49) ⟨by omega, by omega⟩ dX9_ticksToGap_18 rfl (by decide) (fun h_18 => ?_) (fun h_18 => ?_)
        ·
          exfalso; omega
        ·
          refine r_aload_n F rfl rfl dX9_ticksToGap_21 rfl ?_
          refine r_callV F GC (c_X9_tick _ _ _ _ hM hwO (by omega)) v_X9_141 rfl (hM.1) rfl (by decide) (by decide) (Nat.le_of_ble_eq_true rfl) rfl dX9_ticksToGap_22 rfl (fun v lay' mem' n' hp => ?_)
          obtain ⟨q1, q2, q3, G2, hG2, q4⟩ := hp
          subst q1; subst q2; subst q3; subst q4
          have hO2 := N_ti_O hwO (by omega)
          have hR2 := hO2.1
          have hC2 := hR2.C
          have hgp2 := hgp.tr hG2.gp
          have hsp2 : ∀ j : Nat, j < 2484 → G2 (m + 2) j = v j := fun j hj => by rw [hG2 (m + 2) (by omega) (by omega)]; exact hsp j hj
          refine r_ist3 F (by decide) rfl dX9_ticksToGap_25 rfl ?_
          refine r_aload_n F rfl rfl dX9_ticksToGap_26 rfl ?_
          refine r_getR F f_X9_7 (hM.1) rfl dX9_ticksToGap_27 rfl ?_
          refine r_bipush F (by decide) dX9_ticksToGap_30 rfl ?_
          refine r_iald F (ja_LM_1 hM) (by omega) (by omega) (by decide) dX9_ticksToGap_32 rfl ?_
          refine r_eqz (z := ((N_ti w) 27)) (by rw [ja_rw_s, show Int.toNat 27 = 27 from rfl]) ?_
          refine r_iconst F dX9_ticksToGap_33 rfl ?_
          refine r_icmp_ne F (tgt := 41) ⟨by omega, by omega⟩ ⟨by omega, by omega⟩ dX9_ticksToGap_34 rfl (by decide) (fun h_34 => ?_) (fun h_34 => ?_)
          ·
            refine r_iload_n F rfl rfl dX9_ticksToGap_41 rfl ?_
            refine r_ist1 F (by decide) rfl dX9_ticksToGap_42 rfl ?_
            refine r_inc2 F (by decide) rfl dX9_ticksToGap_43 rfl ?_
            refine r_goto F (tgt := 10) dX9_ticksToGap_46 (by decide) ?_
            refine r_msk [true, true, true, false] rfl ?_
            exact ih (k + 1) _ G2 (by omega) hgp2 hsp2 (by rw [show t + ((k + 1 : Nat) : Int) = t + k + 1 by omega]; exact hO2) (by rw [← hl]; simp only [N_xg]; rw [if_neg (by omega)])
          ·
            refine r_iload_n F rfl rfl dX9_ticksToGap_37 rfl ?_
            refine r_goto F (tgt := 42) dX9_ticksToGap_38 (by decide) ?_
            refine r_ist1 F (by decide) rfl dX9_ticksToGap_42 rfl ?_
            refine r_inc2 F (by decide) rfl dX9_ticksToGap_43 rfl ?_
            refine r_goto F (tgt := 10) dX9_ticksToGap_46 (by decide) ?_
            refine r_iload_n F rfl rfl dX9_ticksToGap_10 rfl ?_
            refine r_sipush F (by decide) dX9_ticksToGap_11 rfl ?_
            refine r_icmp_ge F (tgt := 49) ⟨by omega, by omega⟩ ⟨by omega, by omega⟩ dX9_ticksToGap_14 rfl (by decide) (fun h_14 => ?_) (fun h_14 => ?_)
            ·
              refine r_aload_n F rfl rfl dX9_ticksToGap_49 rfl ?_
              refine r_callV F GC (c_X9_brings _ _ _ _ hM hsp2) v_X9_147 rfl (hM.1) rfl (by decide) (by decide) (Nat.le_of_ble_eq_true rfl) rfl dX9_ticksToGap_50 rfl (fun v lay' mem' n' hp => ?_)
              obtain ⟨q1, q2, q3, q4⟩ := hp
              subst q1; subst q2; subst q3; subst q4
              refine r_iload_n F rfl rfl dX9_ticksToGap_53 rfl ?_
              exact r_iret F Rt dX9_ticksToGap_54 (by decide) ⟨by rw [← hl]; simp only [N_xg]; rw [if_pos (by omega)], rfl, rfl, G2, hgp2, rfl⟩
            ·
              refine r_iload_n F rfl rfl dX9_ticksToGap_17 rfl ?_
              refine r_if_ge F (tgt := 49) ⟨by omega, by omega⟩ dX9_ticksToGap_18 rfl (by decide) (fun h_18 => ?_) (fun h_18 => ?_)
              ·
                refine r_aload_n F rfl rfl dX9_ticksToGap_49 rfl ?_
                refine r_callV F GC (c_X9_brings _ _ _ _ hM hsp2) v_X9_147 rfl (hM.1) rfl (by decide) (by decide) (Nat.le_of_ble_eq_true rfl) rfl dX9_ticksToGap_50 rfl (fun v lay' mem' n' hp => ?_)
                obtain ⟨q1, q2, q3, q4⟩ := hp
                subst q1; subst q2; subst q3; subst q4
                refine r_iload_n F rfl rfl dX9_ticksToGap_53 rfl ?_
                exact r_iret F Rt dX9_ticksToGap_54 (by decide) ⟨by rw [← hl]; simp only [N_xg]; rw [if_pos (by omega)], rfl, rfl, G2, hgp2, rfl⟩
              ·
                exfalso; omega
  refine r_msk [true, true, true, false] rfl ?_
  exact loop 1000 0 v _ (by omega) N_gp.rw2 (fun j _ => by rw [ja_rw_s]) (by rw [show t + ((0 : Nat) : Int) = t by omega]; exact hO) rfl
abbrev rm_X9_ticksToFrame : Room := { frames := 8, cells := 0, slots := 0, locals := 189 }
set_option maxRecDepth 100000 in
set_option maxHeartbeats 800000 in
theorem c_X9_ticksToFrame (l : Launch) (D : va_G) (cA : Nat → ClassId) (B : Nat) {lay : ja_Y} {n : Nat} {m : Nat} {G : ja_M} {v : Nat → Int} (hM : ja_LM lay m) {x : Int} {t : Int} (hO : N_O v t) (ht : t ≤ 898000) (hx : ja_in x) : ja_Mt l D cA B yX9_ticksToFrame cX9_ticksToFrame 5 (some .int) rm_X9_ticksToFrame [.ref m, .int (ja_I x)] lay (ja_rw G (m + 1) v) n (N_pp lay m n G v (some (.int (ja_I (if N_isF x then (if x < v 11 then -1003 else N_xf x 2000 0 v) else -1001))))) := by
  refine ja_enter [some (.ref m), some (.int (ja_I x)), none, none, none] (by decide) (Nat.le_of_ble_eq_true rfl) (fun q hq => hq) (fun C F Rt GC hnm => ?_)
  have hR := hO.1
  have hC := hR.C
  obtain ⟨x1_, x2_⟩ := id hx
  refine r_iload_n F rfl rfl dX9_ticksToFrame_0 rfl ?_
  refine r_callS F GC (c_X9_isFrame _ _ _ _ ⟨by omega, by omega⟩) s_X9_84 rfl (by decide) (by decide) (Nat.le_of_ble_eq_true rfl) rfl dX9_ticksToFrame_1 rfl (fun v lay' mem' n' hp => ?_)
  obtain ⟨q1, q2, q3, q4⟩ := hp
  subst q1; subst q2; subst q3; subst q4
  refine r_if_ne F (tgt := 11) ja_b_in dX9_ticksToFrame_4 rfl (by decide) (fun h_4 => ?_) (fun h_4 => ?_)
  ·
    have b_4 : (0 ≤ x ∧ x ≤ 999) := ja_b_1 h_4
    refine r_iload_n F rfl rfl dX9_ticksToFrame_11 rfl ?_
    refine r_aload_n F rfl rfl dX9_ticksToFrame_12 rfl ?_
    refine r_getR F f_X9_7 (hM.1) rfl dX9_ticksToFrame_13 rfl ?_
    refine r_bipush F (by decide) dX9_ticksToFrame_16 rfl ?_
    refine r_iald F (ja_LM_1 hM) (by omega) (by omega) (by decide) dX9_ticksToFrame_18 rfl ?_
    refine r_eqz (z := (v 11)) (by rw [ja_rw_s, show Int.toNat 11 = 11 from rfl]) ?_
    refine r_icmp_ge F (tgt := 26) ⟨by omega, by omega⟩ ⟨by omega, by omega⟩ dX9_ticksToFrame_19 rfl (by decide) (fun h_19 => ?_) (fun h_19 => ?_)
    ·
      refine r_aload_n F rfl rfl dX9_ticksToFrame_26 rfl ?_
      refine r_callV F GC (c_X9_keeps _ _ _ _ hM) v_X9_144 rfl (hM.1) rfl (by decide) (by decide) (Nat.le_of_ble_eq_true rfl) rfl dX9_ticksToFrame_27 rfl (fun v lay' mem' n' hp => ?_)
      obtain ⟨q1, q2, q3, q4⟩ := hp
      subst q1; subst q2; subst q3; subst q4
      refine r_sipush F (by decide) dX9_ticksToFrame_30 rfl ?_
      refine r_ist2 F (by decide) rfl dX9_ticksToFrame_33 rfl ?_
      refine r_iconst F dX9_ticksToFrame_34 rfl ?_
      refine r_ist3 F (by decide) rfl dX9_ticksToFrame_35 rfl ?_
      have loop : ∀ (d k : Nat) (w : Nat → Int) (G1 : ja_M), k + d = 2000 → N_gp m G G1 → (∀ j : Nat, j < 2484 → G1 (m + 2) j = v j) → N_O w (t + k) → N_xf x d k w = N_xf x 2000 0 v → ja_W C 0 0 lay (ja_rw G1 (m + 1) w) n 36 [some (.ref m), some (.int (ja_I x)), some (.int (ja_I (-1004))), some (.int (ja_I (k : Int))), none] [] := by
        intro d
        induction d with
        | zero =>
          intro k w G1 hk hgp hsp hwO hl
          have hwR := hwO.1
          refine r_iload_n F rfl rfl dX9_ticksToFrame_36 rfl ?_
          refine r_sipush F (by decide) dX9_ticksToFrame_37 rfl ?_
          refine r_icmp_ge F (tgt := 76) ⟨by omega, by omega⟩ ⟨by omega, by omega⟩ dX9_ticksToFrame_40 rfl (by decide) (fun h_40 => ?_) (fun h_40 => ?_)
          ·
            refine r_aload_n F rfl rfl dX9_ticksToFrame_76 rfl ?_
            refine r_callV F GC (c_X9_brings _ _ _ _ hM hsp) v_X9_147 rfl (hM.1) rfl (by decide) (by decide) (Nat.le_of_ble_eq_true rfl) rfl dX9_ticksToFrame_77 rfl (fun v lay' mem' n' hp => ?_)
            obtain ⟨q1, q2, q3, q4⟩ := hp
            subst q1; subst q2; subst q3; subst q4
            refine r_iload_n F rfl rfl dX9_ticksToFrame_80 rfl ?_
            exact r_iret F Rt dX9_ticksToFrame_81 (by decide) ⟨by rw [if_pos b_4, if_neg (by omega)]; rw [← hl]; rfl, rfl, rfl, G1, hgp, rfl⟩
          ·
            exfalso; omega
        | succ d ih =>
          intro k w G1 hk hgp hsp hwO hl
          have hwR := hwO.1
          refine r_iload_n F rfl rfl dX9_ticksToFrame_36 rfl ?_
          refine r_sipush F (by decide) dX9_ticksToFrame_37 rfl ?_
          refine r_icmp_ge F (tgt := 76) ⟨by omega, by omega⟩ ⟨by omega, by omega⟩ dX9_ticksToFrame_40 rfl (by decide) (fun h_40 => ?_) (fun h_40 => ?_)
          ·
            exfalso; omega
          ·
            refine r_iload_n F rfl rfl dX9_ticksToFrame_43 rfl ?_
            refine r_if_ge F (tgt := 76) ⟨by omega, by omega⟩ dX9_ticksToFrame_44 rfl (by decide) (fun h_44 => ?_) (fun h_44 => ?_)
            ·
              exfalso; omega
            ·
              refine r_aload_n F rfl rfl dX9_ticksToFrame_47 rfl ?_
              refine r_callV F GC (c_X9_tick _ _ _ _ hM hwO (by omega)) v_X9_141 rfl (hM.1) rfl (by decide) (by decide) (Nat.le_of_ble_eq_true rfl) rfl dX9_ticksToFrame_48 rfl (fun v lay' mem' n' hp => ?_)
              obtain ⟨q1, q2, q3, G2, hG2, q4⟩ := hp
              subst q1; subst q2; subst q3; subst q4
              have hO2 := N_ti_O hwO (by omega)
              have hR2 := hO2.1
              have hC2 := hR2.C
              have hgp2 := hgp.tr hG2.gp
              have hsp2 : ∀ j : Nat, j < 2484 → G2 (m + 2) j = v j := fun j hj => by rw [hG2 (m + 2) (by omega) (by omega)]; exact hsp j hj
              refine r_ist4 F (by decide) rfl dX9_ticksToFrame_51 rfl ?_
              refine r_aload_n F rfl rfl dX9_ticksToFrame_53 rfl ?_
              refine r_getR F f_X9_7 (hM.1) rfl dX9_ticksToFrame_54 rfl ?_
              refine r_bipush F (by decide) dX9_ticksToFrame_57 rfl ?_
              refine r_iald F (ja_LM_1 hM) (by omega) (by omega) (by decide) dX9_ticksToFrame_59 rfl ?_
              refine r_eqz (z := ((N_ti w) 11)) (by rw [ja_rw_s, show Int.toNat 11 = 11 from rfl]) ?_
              refine r_iload_n F rfl rfl dX9_ticksToFrame_60 rfl ?_
              refine r_icmp_le F (tgt := 68) ⟨by omega, by omega⟩ ⟨by omega, by omega⟩ dX9_ticksToFrame_61 rfl (by decide) (fun h_61 => ?_) (fun h_61 => ?_)
              ·
                refine r_iload_n F rfl rfl dX9_ticksToFrame_68 rfl ?_
                refine r_ist2 F (by decide) rfl dX9_ticksToFrame_69 rfl ?_
                refine r_inc3 F (by decide) rfl dX9_ticksToFrame_70 rfl ?_
                refine r_goto F (tgt := 36) dX9_ticksToFrame_73 (by decide) ?_
                refine r_msk [true, true, true, true, false] rfl ?_
                exact ih (k + 1) _ G2 (by omega) hgp2 hsp2 (by rw [show t + ((k + 1 : Nat) : Int) = t + k + 1 by omega]; exact hO2) (by rw [← hl]; simp only [N_xf]; rw [if_neg (by omega)])
              ·
                refine r_iload_n F rfl rfl dX9_ticksToFrame_64 rfl ?_
                refine r_goto F (tgt := 69) dX9_ticksToFrame_65 (by decide) ?_
                refine r_ist2 F (by decide) rfl dX9_ticksToFrame_69 rfl ?_
                refine r_inc3 F (by decide) rfl dX9_ticksToFrame_70 rfl ?_
                refine r_goto F (tgt := 36) dX9_ticksToFrame_73 (by decide) ?_
                refine r_iload_n F rfl rfl dX9_ticksToFrame_36 rfl ?_
                refine r_sipush F (by decide) dX9_ticksToFrame_37 rfl ?_
                refine r_icmp_ge F (tgt := 76) ⟨by omega, by omega⟩ ⟨by omega, by omega⟩ dX9_ticksToFrame_40 rfl (by decide) (fun h_40 => ?_) (fun h_40 => ?_)
                ·
                  refine r_aload_n F rfl rfl dX9_ticksToFrame_76 rfl ?_
                  refine r_callV F GC (c_X9_brings _ _ _ _ hM hsp2) v_X9_147 rfl (hM.1) rfl (by decide) (by decide) (Nat.le_of_ble_eq_true rfl) rfl dX9_ticksToFrame_77 rfl (fun v lay' mem' n' hp => ?_)
                  obtain ⟨q1, q2, q3, q4⟩ := hp
                  subst q1; subst q2; subst q3; subst q4
                  refine r_iload_n F rfl rfl dX9_ticksToFrame_80 rfl ?_
                  exact r_iret F Rt dX9_ticksToFrame_81 (by decide) ⟨by rw [if_pos b_4, if_neg (by omega)]; rw [← hl]; simp only [N_xf]; rw [if_pos (by omega)], rfl, rfl, G2, hgp2, rfl⟩
                ·
                  refine r_iload_n F rfl rfl dX9_ticksToFrame_43 rfl ?_
                  refine r_if_ge F (tgt := 76) ⟨by omega, by omega⟩ dX9_ticksToFrame_44 rfl (by decide) (fun h_44 => ?_) (fun h_44 => ?_)
                  ·
                    refine r_aload_n F rfl rfl dX9_ticksToFrame_76 rfl ?_
                    refine r_callV F GC (c_X9_brings _ _ _ _ hM hsp2) v_X9_147 rfl (hM.1) rfl (by decide) (by decide) (Nat.le_of_ble_eq_true rfl) rfl dX9_ticksToFrame_77 rfl (fun v lay' mem' n' hp => ?_)
                    obtain ⟨q1, q2, q3, q4⟩ := hp
                    subst q1; subst q2; subst q3; subst q4
                    refine r_iload_n F rfl rfl dX9_ticksToFrame_80 rfl ?_
                    exact r_iret F Rt dX9_ticksToFrame_81 (by decide) ⟨by rw [if_pos b_4, if_neg (by omega)]; rw [← hl]; simp only [N_xf]; rw [if_pos (by omega)], rfl, rfl, G2, hgp2, rfl⟩
                  ·
                    exfalso; omega
      refine r_msk [true, true, true, true, false] rfl ?_
      exact loop 2000 0 v _ (by omega) N_gp.rw2 (fun j _ => by rw [ja_rw_s]) (by rw [show t + ((0 : Nat) : Int) = t by omega]; exact hO) rfl
    ·
      refine r_sipush F (by decide) dX9_ticksToFrame_22 rfl ?_
      exact r_iret F Rt dX9_ticksToFrame_25 (by decide) ⟨by rw [if_pos b_4, if_pos (by omega)], rfl, rfl, G, fun _ _ _ _ => rfl, rfl⟩
  ·
    have b_4 : ¬ (0 ≤ x ∧ x ≤ 999) := ja_b_0.mp h_4
    refine r_sipush F (by decide) dX9_ticksToFrame_7 rfl ?_
    exact r_iret F Rt dX9_ticksToFrame_10 (by decide) ⟨by rw [if_neg b_4], rfl, rfl, G, fun _ _ _ _ => rfl, rfl⟩
abbrev rm_X9_gapsIn : Room := { frames := 8, cells := 0, slots := 0, locals := 189 }
set_option maxRecDepth 100000 in
set_option maxHeartbeats 800000 in
theorem c_X9_gapsIn (l : Launch) (D : va_G) (cA : Nat → ClassId) (B : Nat) {lay : ja_Y} {n : Nat} {m : Nat} {G : ja_M} {v : Nat → Int} (hM : ja_LM lay m) {x : Int} {t : Int} (hO : N_O v t) (ht : t ≤ 898000) (hx : ja_in x) : ja_Mt l D cA B yX9_gapsIn cX9_gapsIn 5 (some .int) rm_X9_gapsIn [.ref m, .int (ja_I x)] lay (ja_rw G (m + 1) v) n (N_pp lay m n G v (some (.int (ja_I (if 1 ≤ x ∧ x ≤ 1000 then N_ag v x.toNat else -1001))))) := by
  refine ja_enter [some (.ref m), some (.int (ja_I x)), none, none, none] (by decide) (Nat.le_of_ble_eq_true rfl) (fun q hq => hq) (fun C F Rt GC hnm => ?_)
  have hR := hO.1
  obtain ⟨x1_, x2_⟩ := id hx
  refine r_iload_n F rfl rfl dX9_gapsIn_0 rfl ?_
  refine r_iconst F dX9_gapsIn_1 rfl ?_
  refine r_sipush F (by decide) dX9_gapsIn_2 rfl ?_
  refine r_callS F GC (c_X9_in _ _ _ _ ⟨by omega, by omega⟩ ⟨by omega, by omega⟩ ⟨by omega, by omega⟩) s_X9_35 rfl (by decide) (by decide) (Nat.le_of_ble_eq_true rfl) rfl dX9_gapsIn_5 rfl (fun v lay' mem' n' hp => ?_)
  obtain ⟨q1, q2, q3, q4⟩ := hp
  subst q1; subst q2; subst q3; subst q4
  refine r_if_ne F (tgt := 15) ja_b_in dX9_gapsIn_8 rfl (by decide) (fun h_8 => ?_) (fun h_8 => ?_)
  ·
    have b_8 : (1 ≤ x ∧ x ≤ 1000) := ja_b_1 h_8
    refine r_aload_n F rfl rfl dX9_gapsIn_15 rfl ?_
    refine r_callV F GC (c_X9_keeps _ _ _ _ hM) v_X9_144 rfl (hM.1) rfl (by decide) (by decide) (Nat.le_of_ble_eq_true rfl) rfl dX9_gapsIn_16 rfl (fun v lay' mem' n' hp => ?_)
    obtain ⟨q1, q2, q3, q4⟩ := hp
    subst q1; subst q2; subst q3; subst q4
    refine r_iconst F dX9_gapsIn_19 rfl ?_
    refine r_ist2 F (by decide) rfl dX9_gapsIn_20 rfl ?_
    refine r_iconst F dX9_gapsIn_21 rfl ?_
    refine r_ist3 F (by decide) rfl dX9_gapsIn_22 rfl ?_
    have loop : ∀ (d c : Nat) (G1 : ja_M), c + d = x.toNat → N_gp m G G1 → (∀ j : Nat, j < 2484 → G1 (m + 2) j = v j) → ja_W C 0 0 lay (ja_rw G1 (m + 1) (N_ad v c)) n 23 [some (.ref m), some (.int (ja_I x)), some (.int (ja_I (N_ag v c))), some (.int (ja_I (c : Int))), none] [] := by
      intro d
      induction d with
      | zero =>
        intro c G1 hc hgp hsp
        have hwO := N_ad_O hO c (by omega)
        have ha := @N_ag_in v c
        refine r_iload_n F rfl rfl dX9_gapsIn_23 rfl ?_
        refine r_iload_n F rfl rfl dX9_gapsIn_24 rfl ?_
        refine r_icmp_ge F (tgt := 59) ⟨by omega, by omega⟩ ⟨by omega, by omega⟩ dX9_gapsIn_25 rfl (by decide) (fun h_25 => ?_) (fun h_25 => ?_)
        ·
          refine r_aload_n F rfl rfl dX9_gapsIn_59 rfl ?_
          refine r_callV F GC (c_X9_brings _ _ _ _ hM hsp) v_X9_147 rfl (hM.1) rfl (by decide) (by decide) (Nat.le_of_ble_eq_true rfl) rfl dX9_gapsIn_60 rfl (fun v lay' mem' n' hp => ?_)
          obtain ⟨q1, q2, q3, q4⟩ := hp
          subst q1; subst q2; subst q3; subst q4
          refine r_iload_n F rfl rfl dX9_gapsIn_63 rfl ?_
          exact r_iret F Rt dX9_gapsIn_64 (by decide) ⟨by rw [if_pos b_8, show x.toNat = c by omega], rfl, rfl, G1, hgp, rfl⟩
        ·
          exfalso; omega
      | succ d ih =>
        intro c G1 hc hgp hsp
        have hwO := N_ad_O hO c (by omega)
        have ha := @N_ag_in v c
        refine r_iload_n F rfl rfl dX9_gapsIn_23 rfl ?_
        refine r_iload_n F rfl rfl dX9_gapsIn_24 rfl ?_
        refine r_icmp_ge F (tgt := 59) ⟨by omega, by omega⟩ ⟨by omega, by omega⟩ dX9_gapsIn_25 rfl (by decide) (fun h_25 => ?_) (fun h_25 => ?_)
        ·
          exfalso; omega
        ·
          refine r_aload_n F rfl rfl dX9_gapsIn_28 rfl ?_
          refine r_callV F GC (c_X9_tick _ _ _ _ hM hwO (by omega)) v_X9_141 rfl (hM.1) rfl (by decide) (by decide) (Nat.le_of_ble_eq_true rfl) rfl dX9_gapsIn_29 rfl (fun v lay' mem' n' hp => ?_)
          obtain ⟨q1, q2, q3, G2, hG2, q4⟩ := hp
          subst q1; subst q2; subst q3; subst q4
          have hO2 := N_ti_O hwO (by omega)
          have hR2 := hO2.1
          have hC2 := hR2.C
          have hgp2 := hgp.tr hG2.gp
          have hsp2 : ∀ j : Nat, j < 2484 → G2 (m + 2) j = v j := fun j hj => by rw [hG2 (m + 2) (by omega) (by omega)]; exact hsp j hj
          refine r_ist4 F (by decide) rfl dX9_gapsIn_32 rfl ?_
          refine r_iload_n F rfl rfl dX9_gapsIn_34 rfl ?_
          refine r_aload_n F rfl rfl dX9_gapsIn_35 rfl ?_
          refine r_getR F f_X9_7 (hM.1) rfl dX9_gapsIn_36 rfl ?_
          refine r_bipush F (by decide) dX9_gapsIn_39 rfl ?_
          refine r_iald F (ja_LM_1 hM) (by omega) (by omega) (by decide) dX9_gapsIn_41 rfl ?_
          refine r_eqz (z := ((N_ti (N_ad v c)) 27)) (by rw [ja_rw_s, show Int.toNat 27 = 27 from rfl]) ?_
          refine r_iconst F dX9_gapsIn_42 rfl ?_
          refine r_icmp_ne F (tgt := 50) ⟨by omega, by omega⟩ ⟨by omega, by omega⟩ dX9_gapsIn_43 rfl (by decide) (fun h_43 => ?_) (fun h_43 => ?_)
          ·
            refine r_iconst F dX9_gapsIn_50 rfl ?_
            refine r_iadd F dX9_gapsIn_51 rfl ?_
            refine r_ist2 F (by decide) rfl dX9_gapsIn_52 rfl ?_
            refine r_inc3 F (by decide) rfl dX9_gapsIn_53 rfl ?_
            refine r_goto F (tgt := 23) dX9_gapsIn_56 (by decide) ?_
            refine r_msk [true, true, true, true, false] rfl ?_
            have h0 := ih (c + 1) G2 (by omega) hgp2 hsp2
            simp only [N_ag] at h0
            first
              | (rw [if_pos h_43] at h0; exact h0)
              | (rw [if_neg h_43] at h0; exact h0)
          ·
            refine r_iconst F dX9_gapsIn_46 rfl ?_
            refine r_goto F (tgt := 51) dX9_gapsIn_47 (by decide) ?_
            refine r_iadd F dX9_gapsIn_51 rfl ?_
            refine r_ist2 F (by decide) rfl dX9_gapsIn_52 rfl ?_
            refine r_inc3 F (by decide) rfl dX9_gapsIn_53 rfl ?_
            refine r_goto F (tgt := 23) dX9_gapsIn_56 (by decide) ?_
            refine r_msk [true, true, true, true, false] rfl ?_
            have h0 := ih (c + 1) G2 (by omega) hgp2 hsp2
            simp only [N_ag] at h0
            first
              | (rw [if_pos h_43] at h0; exact h0)
              | (rw [if_neg h_43] at h0; exact h0)
    refine r_msk [true, true, true, true, false] rfl ?_
    exact loop x.toNat 0 _ (by omega) N_gp.rw2 (fun j _ => by rw [ja_rw_s])
  ·
    have b_8 : ¬ (1 ≤ x ∧ x ≤ 1000) := ja_b_0.mp h_8
    refine r_sipush F (by decide) dX9_gapsIn_11 rfl ?_
    exact r_iret F Rt dX9_gapsIn_14 (by decide) ⟨by rw [if_neg b_8], rfl, rfl, G, fun _ _ _ _ => rfl, rfl⟩
abbrev rm_X9_keep : Room := { frames := 1, cells := 0, slots := 0, locals := 22 }
set_option maxRecDepth 100000 in
set_option maxHeartbeats 800000 in
theorem c_X9_keep (l : Launch) (D : va_G) (cA : Nat → ClassId) (B : Nat) {lay : ja_Y} {n : Nat} {m : Nat} {G : ja_M} {v : Nat → Int} (hM : ja_LM lay m) {k : Int} (hR : N_R v) (hk : ja_in k) : ja_Mt l D cA B yX9_keep cX9_keep 3 (some .int) rm_X9_keep [.ref m, .int (ja_I k)] lay (ja_rw G (m + 1) v) n (ja_rd lay (if 0 ≤ k ∧ k ≤ 1 then ja_rw (ja_up (ja_rw G (m + 3) (N_kr (G (m + 3)) v k 2484)) (m + 4) k.toNat 1) (m + 1) v else ja_rw G (m + 1) v) n (some (.int (ja_I (if 0 ≤ k ∧ k ≤ 1 then v 9 else -1001))))) := by
  refine ja_enter [some (.ref m), some (.int (ja_I k)), none] (by decide) (Nat.le_of_ble_eq_true rfl) (fun q hq => hq) (fun C F Rt GC hnm => ?_)
  have hC := hR.C
  have hS := hR.S
  obtain ⟨k1_, k2_⟩ := id hk
  refine r_iload_n F rfl rfl dX9_keep_0 rfl ?_
  refine r_iconst F dX9_keep_1 rfl ?_
  refine r_iconst F dX9_keep_2 rfl ?_
  refine r_callS F GC (c_X9_in _ _ _ _ ⟨by omega, by omega⟩ ⟨by omega, by omega⟩ ⟨by omega, by omega⟩) s_X9_35 rfl (by decide) (by decide) (Nat.le_of_ble_eq_true rfl) rfl dX9_keep_3 rfl (fun v lay' mem' n' hp => ?_)
  obtain ⟨q1, q2, q3, q4⟩ := hp
  subst q1; subst q2; subst q3; subst q4
  refine r_if_ne F (tgt := 13) ja_b_in dX9_keep_6 rfl (by decide) (fun h_6 => ?_) (fun h_6 => ?_)
  ·
    have b_6 : (0 ≤ k ∧ k ≤ 1) := ja_b_1 h_6
    refine r_iconst F dX9_keep_13 rfl ?_
    refine r_ist2 F (by decide) rfl dX9_keep_14 rfl ?_
    have loop : ∀ (d c : Nat), c + d = 2484 → ja_W C 0 0 lay (ja_rw (ja_rw G (m + 3) (N_kr (G (m + 3)) v k c)) (m + 1) (v)) n 15 [some (.ref (m)), some (.int (ja_I (k))), some (.int (ja_I ((c : Int))))] [] := by
      intro d
      induction d with
      | zero =>
        intro c hc
        refine r_iload_n F rfl rfl dX9_keep_15 rfl ?_
        refine r_sipush F (by decide) dX9_keep_16 rfl ?_
        refine r_icmp_ge F (tgt := 46) ⟨by omega, by omega⟩ ⟨by omega, by omega⟩ dX9_keep_19 rfl (by decide) (fun h_19 => ?_) (fun h_19 => ?_)
        ·
          obtain rfl : c = 2484 := by omega
          refine r_aload_n F rfl rfl dX9_keep_46 rfl ?_
          refine r_getR F f_X9_19 (hM.1) rfl dX9_keep_47 rfl ?_
          refine r_iload_n F rfl rfl dX9_keep_50 rfl ?_
          refine r_iconst F dX9_keep_51 rfl ?_
          refine r_zast F (Or.inr rfl) (ja_LM_4 hM) (by omega) (by omega) (by decide) dX9_keep_52 rfl ?_
          refine r_mem (mem' := ja_rw (ja_up (ja_rw G (m + 3) (N_kr (G (m + 3)) v k 2484)) (m + 4) (Int.toNat k) 1) (m + 1) (v)) (ja_up_rw (by omega)) ?_
          refine r_aload_n F rfl rfl dX9_keep_53 rfl ?_
          refine r_getR F f_X9_7 (hM.1) rfl dX9_keep_54 rfl ?_
          refine r_bipush F (by decide) dX9_keep_57 rfl ?_
          refine r_iald F (ja_LM_1 hM) (by omega) (by omega) (by decide) dX9_keep_59 rfl ?_
          refine r_eqz (z := ((v) 9)) (by rw [ja_rw_s, show Int.toNat 9 = 9 from rfl]) ?_
          exact r_iret F Rt dX9_keep_60 (by decide) ⟨by rw [if_pos b_6], rfl, by rw [if_pos b_6], rfl⟩
        ·
          exfalso; omega
      | succ d ih =>
        intro c hc
        refine r_iload_n F rfl rfl dX9_keep_15 rfl ?_
        refine r_sipush F (by decide) dX9_keep_16 rfl ?_
        refine r_icmp_ge F (tgt := 46) ⟨by omega, by omega⟩ ⟨by omega, by omega⟩ dX9_keep_19 rfl (by decide) (fun h_19 => ?_) (fun h_19 => ?_)
        ·
          exfalso; omega
        ·
          refine r_aload_n F rfl rfl dX9_keep_22 rfl ?_
          refine r_getR F f_X9_16 (hM.1) rfl dX9_keep_23 rfl ?_
          refine r_sipush F (by decide) dX9_keep_26 rfl ?_
          refine r_iload_n F rfl rfl dX9_keep_29 rfl ?_
          refine r_imul F dX9_keep_30 rfl ?_
          refine r_iload_n F rfl rfl dX9_keep_31 rfl ?_
          refine r_iadd F dX9_keep_32 rfl ?_
          refine r_aload_n F rfl rfl dX9_keep_33 rfl ?_
          refine r_getR F f_X9_7 (hM.1) rfl dX9_keep_34 rfl ?_
          refine r_iload_n F rfl rfl dX9_keep_37 rfl ?_
          refine r_iald F (ja_LM_1 hM) (by omega) (by omega) (by decide) dX9_keep_38 rfl ?_
          refine r_eqz (z := ((v) (Int.toNat (c : Int)))) (by rw [ja_rw_s]) ?_
          refine r_iast F (ja_LM_3 hM) (by omega) (by omega) (by decide) dX9_keep_39 rfl ?_
          refine r_mem (mem' := ja_rw (ja_up (ja_rw G (m + 3) (N_kr (G (m + 3)) v k c)) (m + 3) (Int.toNat ((2484 * k) + (c : Int))) ((v) (Int.toNat (c : Int)))) (m + 1) (v)) (ja_up_rw (by omega)) ?_
          refine r_inc2 F (by decide) rfl dX9_keep_40 rfl ?_
          refine r_goto F (tgt := 15) dX9_keep_43 (by decide) ?_
          rw [ja_rw_up, show Int.toNat ((2484 * k) + (c : Int)) = (2484 * k).toNat + c by omega, ja_nat, N_kr_s]
          exact ih (c + 1) (by omega)
    have h0 := loop 2484 0 (by omega)
    rw [N_kr_0, ja_rw_self] at h0
    exact h0
  ·
    have b_6 : ¬ (0 ≤ k ∧ k ≤ 1) := ja_b_0.mp h_6
    refine r_sipush F (by decide) dX9_keep_9 rfl ?_
    exact r_iret F Rt dX9_keep_12 (by decide) ⟨by rw [if_neg b_6], rfl, by rw [if_neg b_6], rfl⟩
abbrev rm_X9_restore : Room := { frames := 1, cells := 0, slots := 0, locals := 22 }
set_option maxRecDepth 100000 in
set_option maxHeartbeats 800000 in
theorem c_X9_restore (l : Launch) (D : va_G) (cA : Nat → ClassId) (B : Nat) {lay : ja_Y} {n : Nat} {m : Nat} {G : ja_M} {v : Nat → Int} (hM : ja_LM lay m) {k : Int} (hR : N_R v) (hz : ∀ j, 0 ≤ G (m + 4) j ∧ G (m + 4) j ≤ 1) (hk : ja_in k) : ja_Mt l D cA B yX9_restore cX9_restore 3 (some .int) rm_X9_restore [.ref m, .int (ja_I k)] lay (ja_rw G (m + 1) v) n (ja_rd lay (ja_rw G (m + 1) (if (0 ≤ k ∧ k ≤ 1) ∧ ¬ G (m + 4) k.toNat = 0 then fun j => G (m + 3) ((2484 * k).toNat + j) else v)) n (some (.int (ja_I (if 0 ≤ k ∧ k ≤ 1 then (if G (m + 4) k.toNat = 0 then -1003 else G (m + 3) ((2484 * k).toNat + 9)) else -1001))))) := by
  refine ja_enter [some (.ref m), some (.int (ja_I k)), none] (by decide) (Nat.le_of_ble_eq_true rfl) (fun q hq => hq) (fun C F Rt GC hnm => ?_)
  have hC := hR.C
  have hS := hR.S
  obtain ⟨k1_, k2_⟩ := id hk
  have hz0 := hz k.toNat
  refine r_iload_n F rfl rfl dX9_restore_0 rfl ?_
  refine r_iconst F dX9_restore_1 rfl ?_
  refine r_iconst F dX9_restore_2 rfl ?_
  refine r_callS F GC (c_X9_in _ _ _ _ ⟨by omega, by omega⟩ ⟨by omega, by omega⟩ ⟨by omega, by omega⟩) s_X9_35 rfl (by decide) (by decide) (Nat.le_of_ble_eq_true rfl) rfl dX9_restore_3 rfl (fun v lay' mem' n' hp => ?_)
  obtain ⟨q1, q2, q3, q4⟩ := hp
  subst q1; subst q2; subst q3; subst q4
  refine r_if_ne F (tgt := 13) ja_b_in dX9_restore_6 rfl (by decide) (fun h_6 => ?_) (fun h_6 => ?_)
  ·
    have b_6 : (0 ≤ k ∧ k ≤ 1) := ja_b_1 h_6
    refine r_aload_n F rfl rfl dX9_restore_13 rfl ?_
    refine r_getR F f_X9_19 (hM.1) rfl dX9_restore_14 rfl ?_
    refine r_iload_n F rfl rfl dX9_restore_17 rfl ?_
    refine r_zald F (ja_LM_4 hM) (by omega) (by omega) (by decide) dX9_restore_18 rfl ?_
    refine r_eqz (z := (G (m + 4) (Int.toNat k))) (by rw [ja_rw_n (by omega)]) ?_
    refine r_if_ne F (tgt := 26) ⟨by omega, by omega⟩ dX9_restore_19 rfl (by decide) (fun h_19 => ?_) (fun h_19 => ?_)
    ·
      have c2 : (0 ≤ k ∧ k ≤ 1) ∧ ¬ G (m + 4) k.toNat = 0 := ⟨b_6, h_19⟩
      refine r_iconst F dX9_restore_26 rfl ?_
      refine r_ist2 F (by decide) rfl dX9_restore_27 rfl ?_
      have loop : ∀ (d c : Nat), c + d = 2484 → ja_W C 0 0 lay (ja_rw G (m + 1) (N_mix (fun j => G (m + 3) ((2484 * k).toNat + j)) v c)) n 28 [some (.ref (m)), some (.int (ja_I (k))), some (.int (ja_I ((c : Int))))] [] := by
        intro d
        induction d with
        | zero =>
          intro c hc
          refine r_iload_n F rfl rfl dX9_restore_28 rfl ?_
          refine r_sipush F (by decide) dX9_restore_29 rfl ?_
          refine r_icmp_ge F (tgt := 59) ⟨by omega, by omega⟩ ⟨by omega, by omega⟩ dX9_restore_32 rfl (by decide) (fun h_32 => ?_) (fun h_32 => ?_)
          ·
            obtain rfl : c = 2484 := by omega
            refine r_ext (ja_LM_1 hM) (g := fun j => G (m + 3) ((2484 * k).toNat + j)) (fun j hj => N_mix_in hj) ?_
            refine r_aload_n F rfl rfl dX9_restore_59 rfl ?_
            refine r_getR F f_X9_7 (hM.1) rfl dX9_restore_60 rfl ?_
            refine r_bipush F (by decide) dX9_restore_63 rfl ?_
            refine r_iald F (ja_LM_1 hM) (by omega) (by omega) (by decide) dX9_restore_65 rfl ?_
            refine r_eqz (z := (G (m + 3) ((2484 * k).toNat + 9))) (by rw [ja_rw_s]; rfl) ?_
            exact r_iret F Rt dX9_restore_66 (by decide) ⟨by rw [if_pos b_6, if_neg h_19], rfl, by rw [if_pos c2], rfl⟩
          ·
            exfalso; omega
        | succ d ih =>
          intro c hc
          refine r_iload_n F rfl rfl dX9_restore_28 rfl ?_
          refine r_sipush F (by decide) dX9_restore_29 rfl ?_
          refine r_icmp_ge F (tgt := 59) ⟨by omega, by omega⟩ ⟨by omega, by omega⟩ dX9_restore_32 rfl (by decide) (fun h_32 => ?_) (fun h_32 => ?_)
          ·
            exfalso; omega
          ·
            refine r_aload_n F rfl rfl dX9_restore_35 rfl ?_
            refine r_getR F f_X9_7 (hM.1) rfl dX9_restore_36 rfl ?_
            refine r_iload_n F rfl rfl dX9_restore_39 rfl ?_
            refine r_aload_n F rfl rfl dX9_restore_40 rfl ?_
            refine r_getR F f_X9_16 (hM.1) rfl dX9_restore_41 rfl ?_
            refine r_sipush F (by decide) dX9_restore_44 rfl ?_
            refine r_iload_n F rfl rfl dX9_restore_47 rfl ?_
            refine r_imul F dX9_restore_48 rfl ?_
            refine r_iload_n F rfl rfl dX9_restore_49 rfl ?_
            refine r_iadd F dX9_restore_50 rfl ?_
            refine r_iald F (ja_LM_3 hM) (by omega) (by omega) (by decide) dX9_restore_51 rfl ?_
            refine r_eqz (z := (G (m + 3) ((2484 * k).toNat + c))) (by rw [ja_rw_n (by omega)]; congr 1; omega) ?_
            refine r_iast F (ja_LM_1 hM) (by omega) (by omega) (by decide) dX9_restore_52 rfl ?_
            refine r_mem (mem' := ja_rw G (m + 1) (ja_rs (N_mix (fun j => G (m + 3) ((2484 * k).toNat + j)) v c) (Int.toNat (c : Int)) (G (m + 3) ((2484 * k).toNat + c)))) (ja_rw_up _ _ _ _ _) ?_
            refine r_inc2 F (by decide) rfl dX9_restore_53 rfl ?_
            refine r_goto F (tgt := 28) dX9_restore_56 (by decide) ?_
            rw [ja_nat, show G (m + 3) ((2484 * k).toNat + c) = (fun j => G (m + 3) ((2484 * k).toNat + j)) c from rfl, N_mix_s]
            exact ih (c + 1) (by omega)
      have h0 := loop 2484 0 (by omega)
      rw [N_mix_0] at h0
      exact h0
    ·
      have c2 : ¬ ((0 ≤ k ∧ k ≤ 1) ∧ ¬ G (m + 4) k.toNat = 0) := fun q => q.2 h_19
      refine r_sipush F (by decide) dX9_restore_22 rfl ?_
      exact r_iret F Rt dX9_restore_25 (by decide) ⟨by rw [if_pos b_6, if_pos h_19], rfl, by rw [if_neg c2], rfl⟩
  ·
    have b_6 : ¬ (0 ≤ k ∧ k ≤ 1) := ja_b_0.mp h_6
    have c2 : ¬ ((0 ≤ k ∧ k ≤ 1) ∧ ¬ G (m + 4) k.toNat = 0) := fun q => b_6 q.1
    refine r_sipush F (by decide) dX9_restore_9 rfl ?_
    exact r_iret F Rt dX9_restore_12 (by decide) ⟨by rw [if_neg b_6], rfl, by rw [if_neg c2], rfl⟩
abbrev rm_X9_more : Room := { frames := 0, cells := 0, slots := 0, locals := 0 }
set_option maxRecDepth 100000 in
set_option maxHeartbeats 800000 in
theorem c_X9_more (l : Launch) (D : va_G) (cA : Nat → ClassId) (B : Nat) {lay : ja_Y} {n : Nat} {mem : ja_M} {h : Int64} {z : Int} : ja_Mt l D cA B yX9_more cX9_more 3 (some .long) rm_X9_more [.long h, .int (ja_I z)] lay (mem) n (ja_rd lay mem n (some (.long (B_m h z)))) := by
  refine ja_enter [some (.long h), none, some (.int (ja_I z))] (by decide) (Nat.le_of_ble_eq_true rfl) (fun q hq => hq) (fun C F Rt GC hnm => ?_)
  refine r_ldc2 F l_X9_177 dX9_more_0 rfl ?_
  refine r_lload_n F rfl rfl dX9_more_3 rfl ?_
  refine r_lmul F dX9_more_4 rfl ?_
  refine r_iload_n F rfl rfl dX9_more_5 rfl ?_
  refine r_i2l F dX9_more_6 rfl ?_
  refine r_ladd F dX9_more_7 rfl ?_
  exact r_lret F Rt dX9_more_8 (by decide) ⟨rfl, rfl, rfl, rfl⟩
abbrev rm_X9_checksum : Room := { frames := 3, cells := 0, slots := 0, locals := 63 }
set_option maxRecDepth 100000 in
set_option maxHeartbeats 800000 in
theorem c_X9_checksum (l : Launch) (D : va_G) (cA : Nat → ClassId) (B : Nat) {lay : ja_Y} {n : Nat} {m : Nat} {G : ja_M} {v : Nat → Int} (hM : ja_LM lay m) (hR : N_R v) : ja_Mt l D cA B yX9_checksum cX9_checksum 4 (some .long) rm_X9_checksum [.ref m] lay (ja_rw G (m + 1) v) n (N_pg lay m n G (v) (some (.long (N_ck v)))) := by
  refine ja_enter [some (.ref m), none, none, none] (by decide) (Nat.le_of_ble_eq_true rfl) (fun q hq => hq) (fun C F Rt GC hnm => ?_)
  have hC := hR.C
  have hS := hR.S
  refine r_ldc2 F l_X9_179 dX9_checksum_0 rfl ?_
  refine r_aload_n F rfl rfl dX9_checksum_3 rfl ?_
  refine r_getR F f_X9_7 (hM.1) rfl dX9_checksum_4 rfl ?_
  refine r_bipush F (by decide) dX9_checksum_7 rfl ?_
  refine r_iald F (ja_LM_1 hM) (by omega) (by omega) (by decide) dX9_checksum_9 rfl ?_
  refine r_eqz (z := (v 9)) (by rw [ja_rw_s, show Int.toNat 9 = 9 from rfl]) ?_
  refine r_callS F GC (c_X9_more _ _ _ _ ) s_X9_181 rfl (by decide) (by decide) (Nat.le_of_ble_eq_true rfl) rfl dX9_checksum_10 rfl (fun v lay' mem' n' hp => ?_)
  obtain ⟨q1, q2, q3, q4⟩ := hp
  subst q1; subst q2; subst q3; subst q4
  refine r_aload_n F rfl rfl dX9_checksum_13 rfl ?_
  refine r_callV F GC (c_X9_start _ _ _ _ hM hR) v_X9_185 rfl (hM.1) rfl (by decide) (by decide) (Nat.le_of_ble_eq_true rfl) rfl dX9_checksum_14 rfl (fun v lay' mem' n' hp => ?_)
  obtain ⟨q1, q2, q3, q4⟩ := hp
  subst q1; subst q2; subst q3; subst q4
  refine r_callS F GC (c_X9_more _ _ _ _ ) s_X9_181 rfl (by decide) (by decide) (Nat.le_of_ble_eq_true rfl) rfl dX9_checksum_17 rfl (fun v lay' mem' n' hp => ?_)
  obtain ⟨q1, q2, q3, q4⟩ := hp
  subst q1; subst q2; subst q3; subst q4
  refine r_aload_n F rfl rfl dX9_checksum_20 rfl ?_
  refine r_getR F f_X9_7 (hM.1) rfl dX9_checksum_21 rfl ?_
  refine r_bipush F (by decide) dX9_checksum_24 rfl ?_
  refine r_iald F (ja_LM_1 hM) (by omega) (by omega) (by decide) dX9_checksum_26 rfl ?_
  refine r_eqz (z := (v 12)) (by rw [ja_rw_s, show Int.toNat 12 = 12 from rfl]) ?_
  refine r_callS F GC (c_X9_more _ _ _ _ ) s_X9_181 rfl (by decide) (by decide) (Nat.le_of_ble_eq_true rfl) rfl dX9_checksum_27 rfl (fun v lay' mem' n' hp => ?_)
  obtain ⟨q1, q2, q3, q4⟩ := hp
  subst q1; subst q2; subst q3; subst q4
  refine r_lst1 F (by decide) rfl dX9_checksum_30 rfl ?_
  refine r_lload_n F rfl rfl dX9_checksum_31 rfl ?_
  refine r_aload_n F rfl rfl dX9_checksum_32 rfl ?_
  refine r_callV F GC (c_X9_left _ _ _ _ hM hR) v_X9_188 rfl (hM.1) rfl (by decide) (by decide) (Nat.le_of_ble_eq_true rfl) rfl dX9_checksum_33 rfl (fun v lay' mem' n' hp => ?_)
  obtain ⟨q1, q2, q3, q4⟩ := hp
  subst q1; subst q2; subst q3; subst q4
  refine r_callS F GC (c_X9_more _ _ _ _ ) s_X9_181 rfl (by decide) (by decide) (Nat.le_of_ble_eq_true rfl) rfl dX9_checksum_36 rfl (fun v lay' mem' n' hp => ?_)
  obtain ⟨q1, q2, q3, q4⟩ := hp
  subst q1; subst q2; subst q3; subst q4
  refine r_aload_n F rfl rfl dX9_checksum_39 rfl ?_
  refine r_callV F GC (c_X9_next _ _ _ _ hM hR) v_X9_191 rfl (hM.1) rfl (by decide) (by decide) (Nat.le_of_ble_eq_true rfl) rfl dX9_checksum_40 rfl (fun v lay' mem' n' hp => ?_)
  obtain ⟨q1, q2, q3, q4⟩ := hp
  subst q1; subst q2; subst q3; subst q4
  refine r_callS F GC (c_X9_more _ _ _ _ ) s_X9_181 rfl (by decide) (by decide) (Nat.le_of_ble_eq_true rfl) rfl dX9_checksum_43 rfl (fun v lay' mem' n' hp => ?_)
  obtain ⟨q1, q2, q3, q4⟩ := hp
  subst q1; subst q2; subst q3; subst q4
  refine r_aload_n F rfl rfl dX9_checksum_46 rfl ?_
  refine r_callV F GC (c_X9_targetNow _ _ _ _ hM hR) v_X9_110 rfl (hM.1) rfl (by decide) (by decide) (Nat.le_of_ble_eq_true rfl) rfl dX9_checksum_47 rfl (fun v lay' mem' n' hp => ?_)
  obtain ⟨q1, q2, q3, G1, hG1, q4⟩ := hp
  subst q1; subst q2; subst q3; subst q4
  refine r_callS F GC (c_X9_more _ _ _ _ ) s_X9_181 rfl (by decide) (by decide) (Nat.le_of_ble_eq_true rfl) rfl dX9_checksum_50 rfl (fun v lay' mem' n' hp => ?_)
  obtain ⟨q1, q2, q3, q4⟩ := hp
  subst q1; subst q2; subst q3; subst q4
  refine r_lst1 F (by decide) rfl dX9_checksum_53 rfl ?_
  refine r_lload_n F rfl rfl dX9_checksum_54 rfl ?_
  refine r_aload_n F rfl rfl dX9_checksum_55 rfl ?_
  refine r_callV F GC (c_X9_level _ _ _ _ hM hR) v_X9_194 rfl (hM.1) rfl (by decide) (by decide) (Nat.le_of_ble_eq_true rfl) rfl dX9_checksum_56 rfl (fun v lay' mem' n' hp => ?_)
  obtain ⟨q1, q2, q3, q4⟩ := hp
  subst q1; subst q2; subst q3; subst q4
  refine r_callS F GC (c_X9_more _ _ _ _ ) s_X9_181 rfl (by decide) (by decide) (Nat.le_of_ble_eq_true rfl) rfl dX9_checksum_59 rfl (fun v lay' mem' n' hp => ?_)
  obtain ⟨q1, q2, q3, q4⟩ := hp
  subst q1; subst q2; subst q3; subst q4
  refine r_aload_n F rfl rfl dX9_checksum_62 rfl ?_
  refine r_getR F f_X9_7 (hM.1) rfl dX9_checksum_63 rfl ?_
  refine r_bipush F (by decide) dX9_checksum_66 rfl ?_
  refine r_iald F (ja_LM_1 hM) (by omega) (by omega) (by decide) dX9_checksum_68 rfl ?_
  refine r_eqz (z := (v 24)) (by rw [ja_rw_s, show Int.toNat 24 = 24 from rfl]) ?_
  refine r_callS F GC (c_X9_more _ _ _ _ ) s_X9_181 rfl (by decide) (by decide) (Nat.le_of_ble_eq_true rfl) rfl dX9_checksum_69 rfl (fun v lay' mem' n' hp => ?_)
  obtain ⟨q1, q2, q3, q4⟩ := hp
  subst q1; subst q2; subst q3; subst q4
  refine r_lst1 F (by decide) rfl dX9_checksum_72 rfl ?_
  refine r_lload_n F rfl rfl dX9_checksum_73 rfl ?_
  refine r_aload_n F rfl rfl dX9_checksum_74 rfl ?_
  refine r_getR F f_X9_7 (hM.1) rfl dX9_checksum_75 rfl ?_
  refine r_bipush F (by decide) dX9_checksum_78 rfl ?_
  refine r_iald F (ja_LM_1 hM) (by omega) (by omega) (by decide) dX9_checksum_80 rfl ?_
  refine r_eqz (z := (v 19)) (by rw [ja_rw_s, show Int.toNat 19 = 19 from rfl]) ?_
  refine r_callS F GC (c_X9_more _ _ _ _ ) s_X9_181 rfl (by decide) (by decide) (Nat.le_of_ble_eq_true rfl) rfl dX9_checksum_81 rfl (fun v lay' mem' n' hp => ?_)
  obtain ⟨q1, q2, q3, q4⟩ := hp
  subst q1; subst q2; subst q3; subst q4
  refine r_aload_n F rfl rfl dX9_checksum_84 rfl ?_
  refine r_getR F f_X9_7 (hM.1) rfl dX9_checksum_85 rfl ?_
  refine r_bipush F (by decide) dX9_checksum_88 rfl ?_
  refine r_iald F (ja_LM_1 hM) (by omega) (by omega) (by decide) dX9_checksum_90 rfl ?_
  refine r_eqz (z := (v 20)) (by rw [ja_rw_s, show Int.toNat 20 = 20 from rfl]) ?_
  refine r_callS F GC (c_X9_more _ _ _ _ ) s_X9_181 rfl (by decide) (by decide) (Nat.le_of_ble_eq_true rfl) rfl dX9_checksum_91 rfl (fun v lay' mem' n' hp => ?_)
  obtain ⟨q1, q2, q3, q4⟩ := hp
  subst q1; subst q2; subst q3; subst q4
  refine r_aload_n F rfl rfl dX9_checksum_94 rfl ?_
  refine r_getR F f_X9_7 (hM.1) rfl dX9_checksum_95 rfl ?_
  refine r_bipush F (by decide) dX9_checksum_98 rfl ?_
  refine r_iald F (ja_LM_1 hM) (by omega) (by omega) (by decide) dX9_checksum_100 rfl ?_
  refine r_eqz (z := (v 21)) (by rw [ja_rw_s, show Int.toNat 21 = 21 from rfl]) ?_
  refine r_callS F GC (c_X9_more _ _ _ _ ) s_X9_181 rfl (by decide) (by decide) (Nat.le_of_ble_eq_true rfl) rfl dX9_checksum_101 rfl (fun v lay' mem' n' hp => ?_)
  obtain ⟨q1, q2, q3, q4⟩ := hp
  subst q1; subst q2; subst q3; subst q4
  refine r_lst1 F (by decide) rfl dX9_checksum_104 rfl ?_
  refine r_lload_n F rfl rfl dX9_checksum_105 rfl ?_
  refine r_aload_n F rfl rfl dX9_checksum_106 rfl ?_
  refine r_getR F f_X9_7 (hM.1) rfl dX9_checksum_107 rfl ?_
  refine r_bipush F (by decide) dX9_checksum_110 rfl ?_
  refine r_iald F (ja_LM_1 hM) (by omega) (by omega) (by decide) dX9_checksum_112 rfl ?_
  refine r_eqz (z := (v 15)) (by rw [ja_rw_s, show Int.toNat 15 = 15 from rfl]) ?_
  refine r_callS F GC (c_X9_more _ _ _ _ ) s_X9_181 rfl (by decide) (by decide) (Nat.le_of_ble_eq_true rfl) rfl dX9_checksum_113 rfl (fun v lay' mem' n' hp => ?_)
  obtain ⟨q1, q2, q3, q4⟩ := hp
  subst q1; subst q2; subst q3; subst q4
  refine r_aload_n F rfl rfl dX9_checksum_116 rfl ?_
  refine r_getR F f_X9_7 (hM.1) rfl dX9_checksum_117 rfl ?_
  refine r_bipush F (by decide) dX9_checksum_120 rfl ?_
  refine r_iald F (ja_LM_1 hM) (by omega) (by omega) (by decide) dX9_checksum_122 rfl ?_
  refine r_eqz (z := (v 16)) (by rw [ja_rw_s, show Int.toNat 16 = 16 from rfl]) ?_
  refine r_callS F GC (c_X9_more _ _ _ _ ) s_X9_181 rfl (by decide) (by decide) (Nat.le_of_ble_eq_true rfl) rfl dX9_checksum_123 rfl (fun v lay' mem' n' hp => ?_)
  obtain ⟨q1, q2, q3, q4⟩ := hp
  subst q1; subst q2; subst q3; subst q4
  refine r_aload_n F rfl rfl dX9_checksum_126 rfl ?_
  refine r_getR F f_X9_7 (hM.1) rfl dX9_checksum_127 rfl ?_
  refine r_bipush F (by decide) dX9_checksum_130 rfl ?_
  refine r_iald F (ja_LM_1 hM) (by omega) (by omega) (by decide) dX9_checksum_132 rfl ?_
  refine r_eqz (z := (v 17)) (by rw [ja_rw_s, show Int.toNat 17 = 17 from rfl]) ?_
  refine r_callS F GC (c_X9_more _ _ _ _ ) s_X9_181 rfl (by decide) (by decide) (Nat.le_of_ble_eq_true rfl) rfl dX9_checksum_133 rfl (fun v lay' mem' n' hp => ?_)
  obtain ⟨q1, q2, q3, q4⟩ := hp
  subst q1; subst q2; subst q3; subst q4
  refine r_lst1 F (by decide) rfl dX9_checksum_136 rfl ?_
  refine r_lload_n F rfl rfl dX9_checksum_137 rfl ?_
  refine r_aload_n F rfl rfl dX9_checksum_138 rfl ?_
  refine r_getR F f_X9_7 (hM.1) rfl dX9_checksum_139 rfl ?_
  refine r_bipush F (by decide) dX9_checksum_142 rfl ?_
  refine r_iald F (ja_LM_1 hM) (by omega) (by omega) (by decide) dX9_checksum_144 rfl ?_
  refine r_eqz (z := (v 18)) (by rw [ja_rw_s, show Int.toNat 18 = 18 from rfl]) ?_
  refine r_callS F GC (c_X9_more _ _ _ _ ) s_X9_181 rfl (by decide) (by decide) (Nat.le_of_ble_eq_true rfl) rfl dX9_checksum_145 rfl (fun v lay' mem' n' hp => ?_)
  obtain ⟨q1, q2, q3, q4⟩ := hp
  subst q1; subst q2; subst q3; subst q4
  refine r_aload_n F rfl rfl dX9_checksum_148 rfl ?_
  refine r_getR F f_X9_7 (hM.1) rfl dX9_checksum_149 rfl ?_
  refine r_bipush F (by decide) dX9_checksum_152 rfl ?_
  refine r_iald F (ja_LM_1 hM) (by omega) (by omega) (by decide) dX9_checksum_154 rfl ?_
  refine r_eqz (z := (v 14)) (by rw [ja_rw_s, show Int.toNat 14 = 14 from rfl]) ?_
  refine r_callS F GC (c_X9_more _ _ _ _ ) s_X9_181 rfl (by decide) (by decide) (Nat.le_of_ble_eq_true rfl) rfl dX9_checksum_155 rfl (fun v lay' mem' n' hp => ?_)
  obtain ⟨q1, q2, q3, q4⟩ := hp
  subst q1; subst q2; subst q3; subst q4
  refine r_aload_n F rfl rfl dX9_checksum_158 rfl ?_
  refine r_getR F f_X9_7 (hM.1) rfl dX9_checksum_159 rfl ?_
  refine r_bipush F (by decide) dX9_checksum_162 rfl ?_
  refine r_iald F (ja_LM_1 hM) (by omega) (by omega) (by decide) dX9_checksum_164 rfl ?_
  refine r_eqz (z := (v 25)) (by rw [ja_rw_s, show Int.toNat 25 = 25 from rfl]) ?_
  refine r_callS F GC (c_X9_more _ _ _ _ ) s_X9_181 rfl (by decide) (by decide) (Nat.le_of_ble_eq_true rfl) rfl dX9_checksum_165 rfl (fun v lay' mem' n' hp => ?_)
  obtain ⟨q1, q2, q3, q4⟩ := hp
  subst q1; subst q2; subst q3; subst q4
  refine r_lst1 F (by decide) rfl dX9_checksum_168 rfl ?_
  refine r_iconst F dX9_checksum_169 rfl ?_
  refine r_ist3 F (by decide) rfl dX9_checksum_170 rfl ?_
  have lp1 : ∀ (d c : Nat), c + d = 64 → ja_W C 0 0 lay (ja_rw G1 (m + 1) (v)) n 171 [some (.ref (m)), some (.long (B_cf (N_k6 v) (fun k => N_ou v ((k : Int) + 1)) c)), none, some (.int (ja_I (((c : Int) + 1))))] [] := by
    intro d
    induction d with
    | zero =>
      intro c hc
      refine r_iload_n F rfl rfl dX9_checksum_171 rfl ?_
      refine r_bipush F (by decide) dX9_checksum_172 rfl ?_
      refine r_icmp_gt F (tgt := 193) ⟨by omega, by omega⟩ ⟨by omega, by omega⟩ dX9_checksum_174 rfl (by decide) (fun h_174 => ?_) (fun h_174 => ?_)
      ·
        obtain rfl : c = 64 := by omega
        refine r_iconst F dX9_checksum_193 rfl ?_
        refine r_ist3 F (by decide) rfl dX9_checksum_194 rfl ?_
        have lp2 : ∀ (d c : Nat), c + d = 16 → ja_W C 0 0 lay (ja_rw G1 (m + 1) (v)) n 195 [some (.ref (m)), some (.long (B_cf (N_k7 v) (fun k => N_ki v ((k : Int) + 1)) c)), none, some (.int (ja_I (((c : Int) + 1))))] [] := by
          intro d
          induction d with
          | zero =>
            intro c hc
            refine r_iload_n F rfl rfl dX9_checksum_195 rfl ?_
            refine r_bipush F (by decide) dX9_checksum_196 rfl ?_
            refine r_icmp_gt F (tgt := 217) ⟨by omega, by omega⟩ ⟨by omega, by omega⟩ dX9_checksum_198 rfl (by decide) (fun h_198 => ?_) (fun h_198 => ?_)
            ·
              obtain rfl : c = 16 := by omega
              refine r_iconst F dX9_checksum_217 rfl ?_
              refine r_ist3 F (by decide) rfl dX9_checksum_218 rfl ?_
              have lp3 : ∀ (d c : Nat), c + d = 100 → ja_W C 0 0 lay (ja_rw G1 (m + 1) (v)) n 219 [some (.ref (m)), some (.long (B_cf (N_k8 v) (fun k => v (30 + (k : Int)).toNat) c)), none, some (.int (ja_I ((c : Int))))] [] := by
                intro d
                induction d with
                | zero =>
                  intro c hc
                  refine r_iload_n F rfl rfl dX9_checksum_219 rfl ?_
                  refine r_bipush F (by decide) dX9_checksum_220 rfl ?_
                  refine r_icmp_ge F (tgt := 245) ⟨by omega, by omega⟩ ⟨by omega, by omega⟩ dX9_checksum_222 rfl (by decide) (fun h_222 => ?_) (fun h_222 => ?_)
                  ·
                    obtain rfl : c = 100 := by omega
                    refine r_lload_n F rfl rfl dX9_checksum_245 rfl ?_
                    exact r_lret F Rt dX9_checksum_246 (by decide) ⟨by rw [N_ck], rfl, rfl, G1, hG1.ge, rfl⟩
                  ·
                    exfalso; omega
                | succ d ih =>
                  intro c hc
                  refine r_iload_n F rfl rfl dX9_checksum_219 rfl ?_
                  refine r_bipush F (by decide) dX9_checksum_220 rfl ?_
                  refine r_icmp_ge F (tgt := 245) ⟨by omega, by omega⟩ ⟨by omega, by omega⟩ dX9_checksum_222 rfl (by decide) (fun h_222 => ?_) (fun h_222 => ?_)
                  ·
                    exfalso; omega
                  ·
                    refine r_lload_n F rfl rfl dX9_checksum_225 rfl ?_
                    refine r_aload_n F rfl rfl dX9_checksum_226 rfl ?_
                    refine r_getR F f_X9_7 (hM.1) rfl dX9_checksum_227 rfl ?_
                    refine r_bipush F (by decide) dX9_checksum_230 rfl ?_
                    refine r_iload_n F rfl rfl dX9_checksum_232 rfl ?_
                    refine r_iadd F dX9_checksum_233 rfl ?_
                    refine r_iald F (ja_LM_1 hM) (by omega) (by omega) (by decide) dX9_checksum_234 rfl ?_
                    refine r_eqz (z := ((v) (Int.toNat (30 + (c : Int))))) (by rw [ja_rw_s]) ?_
                    refine r_callS F GC (c_X9_more _ _ _ _ ) s_X9_181 rfl (by decide) (by decide) (Nat.le_of_ble_eq_true rfl) rfl dX9_checksum_235 rfl (fun v lay' mem' n' hp => ?_)
                    obtain ⟨q1, q2, q3, q4⟩ := hp
                    subst q1; subst q2; subst q3; subst q4
                    refine r_lst1 F (by decide) rfl dX9_checksum_238 rfl ?_
                    refine r_inc3 F (by decide) rfl dX9_checksum_239 rfl ?_
                    refine r_goto F (tgt := 219) dX9_checksum_242 (by decide) ?_
                    rw [show (c : Int) + 1 = ((c + 1 : Nat) : Int) by omega]
                    have h0 := ih (c + 1) (by omega)
                    rw [B_cf_s] at h0
                    exact h0
              have h0 := lp3 100 0 (by omega)
              rw [B_cf_0] at h0
              simp only [N_k8] at h0
              exact h0
            ·
              exfalso; omega
          | succ d ih =>
            intro c hc
            refine r_iload_n F rfl rfl dX9_checksum_195 rfl ?_
            refine r_bipush F (by decide) dX9_checksum_196 rfl ?_
            refine r_icmp_gt F (tgt := 217) ⟨by omega, by omega⟩ ⟨by omega, by omega⟩ dX9_checksum_198 rfl (by decide) (fun h_198 => ?_) (fun h_198 => ?_)
            ·
              exfalso; omega
            ·
              refine r_lload_n F rfl rfl dX9_checksum_201 rfl ?_
              refine r_aload_n F rfl rfl dX9_checksum_202 rfl ?_
              refine r_iload_n F rfl rfl dX9_checksum_203 rfl ?_
              refine r_callV F GC (c_X9_kind _ _ _ _ hM hR ⟨by omega, by omega⟩) v_X9_200 rfl (hM.1) rfl (by decide) (by decide) (Nat.le_of_ble_eq_true rfl) rfl dX9_checksum_204 rfl (fun v lay' mem' n' hp => ?_)
              obtain ⟨q1, q2, q3, q4⟩ := hp
              subst q1; subst q2; subst q3; subst q4
              refine r_eqz (z := N_ki v ((c : Int) + 1)) rfl ?_
              refine r_callS F GC (c_X9_more _ _ _ _ ) s_X9_181 rfl (by decide) (by decide) (Nat.le_of_ble_eq_true rfl) rfl dX9_checksum_207 rfl (fun v lay' mem' n' hp => ?_)
              obtain ⟨q1, q2, q3, q4⟩ := hp
              subst q1; subst q2; subst q3; subst q4
              refine r_lst1 F (by decide) rfl dX9_checksum_210 rfl ?_
              refine r_inc3 F (by decide) rfl dX9_checksum_211 rfl ?_
              refine r_goto F (tgt := 195) dX9_checksum_214 (by decide) ?_
              rw [show (c : Int) + 1 + 1 = ((c + 1 : Nat) : Int) + 1 by omega]
              have h0 := ih (c + 1) (by omega)
              rw [B_cf_s] at h0
              exact h0
        have h0 := lp2 16 0 (by omega)
        rw [B_cf_0] at h0
        simp only [N_k7] at h0
        exact h0
      ·
        exfalso; omega
    | succ d ih =>
      intro c hc
      refine r_iload_n F rfl rfl dX9_checksum_171 rfl ?_
      refine r_bipush F (by decide) dX9_checksum_172 rfl ?_
      refine r_icmp_gt F (tgt := 193) ⟨by omega, by omega⟩ ⟨by omega, by omega⟩ dX9_checksum_174 rfl (by decide) (fun h_174 => ?_) (fun h_174 => ?_)
      ·
        exfalso; omega
      ·
        refine r_lload_n F rfl rfl dX9_checksum_177 rfl ?_
        refine r_aload_n F rfl rfl dX9_checksum_178 rfl ?_
        refine r_iload_n F rfl rfl dX9_checksum_179 rfl ?_
        refine r_callV F GC (c_X9_output _ _ _ _ hM hR ⟨by omega, by omega⟩) v_X9_197 rfl (hM.1) rfl (by decide) (by decide) (Nat.le_of_ble_eq_true rfl) rfl dX9_checksum_180 rfl (fun v lay' mem' n' hp => ?_)
        obtain ⟨q1, q2, q3, q4⟩ := hp
        subst q1; subst q2; subst q3; subst q4
        refine r_eqz (z := N_ou v ((c : Int) + 1)) rfl ?_
        refine r_callS F GC (c_X9_more _ _ _ _ ) s_X9_181 rfl (by decide) (by decide) (Nat.le_of_ble_eq_true rfl) rfl dX9_checksum_183 rfl (fun v lay' mem' n' hp => ?_)
        obtain ⟨q1, q2, q3, q4⟩ := hp
        subst q1; subst q2; subst q3; subst q4
        refine r_lst1 F (by decide) rfl dX9_checksum_186 rfl ?_
        refine r_inc3 F (by decide) rfl dX9_checksum_187 rfl ?_
        refine r_goto F (tgt := 171) dX9_checksum_190 (by decide) ?_
        rw [show (c : Int) + 1 + 1 = ((c + 1 : Nat) : Int) + 1 by omega]
        have h0 := ih (c + 1) (by omega)
        rw [B_cf_s] at h0
        exact h0
  have h0 := lp1 64 0 (by omega)
  rw [B_cf_0] at h0
  simp only [N_k6, N_k5, N_k4, N_k3, N_k2, N_k1, B_m] at h0
  exact h0
end
section
-- the reference's text: place, tellings, told
def N_tG (G : ja_M) (m : Nat) (p tl : Int) (T : Nat → Int) : ja_M := ja_up (ja_up (ja_rw G (m + 8) T) m 9 tl) m 10 p
theorem N_tG_10 {G : ja_M} {m : Nat} {p tl : Int} {T : Nat → Int} : N_tG G m p tl T m 10 = p := ja_up_s _ _ _ _
theorem N_tG_9 {G : ja_M} {m : Nat} {p tl : Int} {T : Nat → Int} : N_tG G m p tl T m 9 = tl := by
  unfold N_tG
  rw [ja_up_j (by omega), ja_up_s]
theorem N_tG_j {G : ja_M} {m j : Nat} {p tl : Int} {T : Nat → Int} (h9 : j ≠ 9) (h10 : j ≠ 10) : N_tG G m p tl T m j = G m j := by
  unfold N_tG
  rw [ja_up_j h10, ja_up_j h9, ja_rw_n (by omega)]
theorem N_tG_8 {G : ja_M} {m : Nat} {p tl : Int} {T : Nat → Int} : N_tG G m p tl T (m + 8) = T := by
  unfold N_tG
  rw [ja_up_row (by omega), ja_up_row (by omega), ja_rw_s]
theorem N_tG_o {G : ja_M} {m q : Nat} {p tl : Int} {T : Nat → Int} (h : q ≠ m) (h8 : q ≠ m + 8) : N_tG G m p tl T q = G q := by
  unfold N_tG
  rw [ja_up_row h, ja_up_row h, ja_rw_n h8]
theorem N_tG_u10 {G : ja_M} {m : Nat} {p tl z : Int} {T : Nat → Int} : ja_up (N_tG G m p tl T) m 10 z = N_tG G m z tl T := by
  funext q x
  unfold N_tG ja_up
  by_cases h : q = m ∧ x = 10
  · rw [if_pos h, if_pos h]
  · rw [if_neg h, if_neg h, if_neg h]
theorem N_tG_u9 {G : ja_M} {m : Nat} {p tl z : Int} {T : Nat → Int} : ja_up (N_tG G m p tl T) m 9 z = N_tG G m p z T := by
  funext q x
  unfold N_tG ja_up
  by_cases h : q = m ∧ x = 9
  · rw [if_pos h, if_neg (fun h2 => by omega), if_pos h]
  · rw [if_neg h]
    by_cases h2 : q = m ∧ x = 10
    · rw [if_pos h2, if_pos h2]
    · rw [if_neg h2, if_neg h2, if_neg h, if_neg h]
theorem N_tG_u8 {G : ja_M} {m j : Nat} {p tl z : Int} {T : Nat → Int} : ja_up (N_tG G m p tl T) (m + 8) j z = N_tG G m p tl (ja_rs T j z) := by
  funext q x
  unfold N_tG ja_up ja_rw ja_rs
  by_cases h : q = m + 8
  · subst h
    simp
  · simp [h]
theorem N_tG_self {G : ja_M} {m : Nat} : N_tG G m (G m 10) (G m 9) (G (m + 8)) = G := by
  funext q x
  unfold N_tG ja_up ja_rw
  by_cases h : q = m ∧ x = 10
  · rw [if_pos h, h.1, h.2]
  · rw [if_neg h]
    by_cases h2 : q = m ∧ x = 9
    · rw [if_pos h2, h2.1, h2.2]
    · rw [if_neg h2]
      by_cases h3 : q = m + 8
      · rw [if_pos h3, h3]
      · rw [if_neg h3]
def N_he (f : Nat → Int) (ln p : Int) : Int := if p < ln then f p.toNat else 0
theorem N_he_in {f : Nat → Int} {ln p : Int} (h : ∀ j, 0 ≤ f j ∧ f j ≤ 126) : 0 ≤ N_he f ln p ∧ N_he f ln p ≤ 126 := by
  unfold N_he
  split
  · exact h _
  · omega
theorem N_he_lt {f : Nat → Int} {ln p : Int} (h : ¬ N_he f ln p = 0) : p < ln := by
  unfold N_he at h
  by_cases q : p < ln
  · exact q
  · rw [if_neg q] at h
    exact absurd rfl h
def N_nm (f : Nat → Int) (ln : Int) : Nat → Int → Int → Int × Int
  | 0, p, z => (z, p)
  | k + 1, p, z => if 48 ≤ N_he f ln p ∧ N_he f ln p ≤ 57 then N_nm f ln k (p + 1) ((if z < 0 then 0 else 10 * z) + N_he f ln p - 48) else (z, p)
/-- k digits may still come -/
def N_dg (k : Nat) (z : Int) : Prop := (k = 4 ∧ z = -1) ∨ (k = 3 ∧ 0 ≤ z ∧ z ≤ 9) ∨ (k = 2 ∧ 0 ≤ z ∧ z ≤ 99) ∨ (k = 1 ∧ 0 ≤ z ∧ z ≤ 999) ∨ (k = 0 ∧ 0 ≤ z ∧ z ≤ 9999)
theorem N_dg_s {k : Nat} {z c : Int} (h : N_dg (k + 1) z) (hc : 48 ≤ c ∧ c ≤ 57) : N_dg k ((if z < 0 then 0 else 10 * z) + c - 48) := by
  unfold N_dg at h ⊢
  split <;> omega
theorem N_dg_in {k : Nat} {z : Int} (h : N_dg k z) : -1 ≤ z ∧ z ≤ 9999 := by
  unfold N_dg at h
  omega
theorem N_nm_in {f : Nat → Int} {ln : Int} : ∀ (k : Nat) (p z : Int), N_dg k z → p ≤ ln → (-1 ≤ (N_nm f ln k p z).1 ∧ (N_nm f ln k p z).1 ≤ 9999) ∧ (p ≤ (N_nm f ln k p z).2 ∧ (N_nm f ln k p z).2 ≤ ln) ∧ ((N_nm f ln k p z).1 ≠ z → p + 1 ≤ (N_nm f ln k p z).2)
  | 0, p, z, h, hp => by
    have := N_dg_in h
    simp only [N_nm]
    exact ⟨this, ⟨by omega, hp⟩, fun q => absurd rfl q⟩
  | k + 1, p, z, h, hp => by
    have h1 := N_dg_in h
    simp only [N_nm]
    split
    · rename_i hc
      have hlt : p < ln := N_he_lt (f := f) (by omega)
      obtain ⟨a, b, c⟩ := @N_nm_in f ln k (p + 1) _ (N_dg_s h hc) (by omega)
      exact ⟨a, ⟨by omega, b.2⟩, fun _ => b.1⟩
    · exact ⟨h1, ⟨by omega, hp⟩, fun q => absurd rfl q⟩
theorem N_dg4 : N_dg 4 (-1) := Or.inl ⟨rfl, rfl⟩
theorem N_n4 {f : Nat → Int} {ln p : Int} (hp : p ≤ ln) : (-1 ≤ (N_nm f ln 4 p (-1)).1 ∧ (N_nm f ln 4 p (-1)).1 ≤ 9999) ∧ (p ≤ (N_nm f ln 4 p (-1)).2 ∧ (N_nm f ln 4 p (-1)).2 ≤ ln) ∧ (0 ≤ (N_nm f ln 4 p (-1)).1 → p + 1 ≤ (N_nm f ln 4 p (-1)).2) := by
  obtain ⟨a, b, c⟩ := @N_nm_in f ln 4 p (-1) N_dg4 hp
  exact ⟨a, b, fun h => c (by omega)⟩
-- an entry: whether it is one; place, tellings, told
abbrev N_E : Type := Int × Int × Int × (Nat → Int)
def N_e0 (c : Int) : Int := if c = 100 then 0 else if c = 114 then 1 else 2
def N_e3 (f : Nat → Int) (ln p tl : Int) (T : Nat → Int) : N_E := if (N_nm f ln 4 p (-1)).1 < 0 then (0, (N_nm f ln 4 p (-1)).2, tl + 1, ja_rs T (4 * tl + 3).toNat (N_nm f ln 4 p (-1)).1) else (ja_b (N_he f ln (N_nm f ln 4 p (-1)).2 = 59), (N_nm f ln 4 p (-1)).2 + ja_b (N_he f ln (N_nm f ln 4 p (-1)).2 = 59), tl + 1, ja_rs T (4 * tl + 3).toNat (N_nm f ln 4 p (-1)).1)
def N_e2 (f : Nat → Int) (ln p tl : Int) (T : Nat → Int) : N_E := if T (4 * tl + 2).toNat < 0 then (0, p, tl, T) else if N_he f ln p = 64 then N_e3 f ln (p + 1) tl T else (0, p, tl, T)
def N_e1 (f : Nat → Int) (ln p tl e : Int) (T : Nat → Int) : N_E := if e ≤ 0 then N_e2 f ln p tl T else if N_he f ln p = 46 then N_e2 f ln (N_nm f ln 4 (p + 1) (-1)).2 tl (ja_rs T (4 * tl + 2).toNat (N_nm f ln 4 (p + 1) (-1)).1) else (0, p, tl, T)
def N_et (T : Nat → Int) (tl e a : Int) : Nat → Int := ja_rs (ja_rs (ja_rs T (4 * tl).toNat e) (4 * tl + 1).toNat a) (4 * tl + 2).toNat 0
def N_en (f : Nat → Int) (ln p tl : Int) (T : Nat → Int) : N_E :=
  if N_he f ln p = 100 ∨ N_he f ln p = 114 ∨ N_he f ln p = 99 then
    if (N_nm f ln 4 (p + 1) (-1)).1 < 0 then (0, (N_nm f ln 4 (p + 1) (-1)).2, tl, N_et T tl (N_e0 (N_he f ln p)) (N_nm f ln 4 (p + 1) (-1)).1)
    else N_e1 f ln (N_nm f ln 4 (p + 1) (-1)).2 tl (N_e0 (N_he f ln p)) (N_et T tl (N_e0 (N_he f ln p)) (N_nm f ln 4 (p + 1) (-1)).1)
  else (0, p, tl, ja_rs T (4 * tl).toNat (N_e0 (N_he f ln p)))
def N_tx (f : Nat → Int) (ln : Int) : Nat → Int → Int → (Nat → Int) → N_E
  | 0, p, tl, T => (1, p, tl, T)
  | k + 1, p, tl, T => if p < ln then (if (N_en f ln p tl T).1 = 0 then N_en f ln p tl T else N_tx f ln k (N_en f ln p tl T).2.1 (N_en f ln p tl T).2.2.1 (N_en f ln p tl T).2.2.2) else (1, p, tl, T)
/-- entry i of the told ones: a kind, numbers that the text can bear -/
def N_tr (T : Nat → Int) (i : Int) : Prop := (0 ≤ T (4 * i).toNat ∧ T (4 * i).toNat ≤ 2) ∧ ja_n4 (T (4 * i + 1).toNat) ∧ ja_n4 (T (4 * i + 2).toNat) ∧ ja_n4 (T (4 * i + 3).toNat)
theorem N_e0_in {c : Int} : 0 ≤ N_e0 c ∧ N_e0 c ≤ 2 := by
  unfold N_e0
  split
  · omega
  · split <;> omega
theorem N_tr_c {T T' : Nat → Int} {i : Int} (h : ∀ j : Nat, (j : Int) < 4 * i + 4 → T' j = T j) (h0 : 0 ≤ i) (hT : N_tr T i) : N_tr T' i := by
  unfold N_tr
  rw [h _ (by omega), h _ (by omega), h _ (by omega), h _ (by omega)]
  exact hT
/-- what an entry does -/
def N_ep (f : Nat → Int) (ln p tl : Int) (T : Nat → Int) (E : N_E) : Prop := (E.1 = 0 ∨ E.1 = 1) ∧ (p ≤ E.2.1 ∧ E.2.1 ≤ ln) ∧ (E.1 = 1 → p + 5 ≤ E.2.1 ∧ E.2.2.1 = tl + 1 ∧ N_tr E.2.2.2 tl) ∧ (tl ≤ E.2.2.1 ∧ E.2.2.1 ≤ tl + 1) ∧ ∀ j : Nat, (j : Int) < 4 * tl → E.2.2.2 j = T j
theorem N_e3_p {f : Nat → Int} {ln p tl : Int} {T : Nat → Int} (h0 : 0 ≤ tl) (hp : p ≤ ln) (h1 : (0 ≤ T (4 * tl).toNat ∧ T (4 * tl).toNat ≤ 2) ∧ ja_n4 (T (4 * tl + 1).toNat) ∧ ja_n4 (T (4 * tl + 2).toNat)) : ((N_e3 f ln p tl T).1 = 0 ∨ (N_e3 f ln p tl T).1 = 1) ∧ (p ≤ (N_e3 f ln p tl T).2.1 ∧ (N_e3 f ln p tl T).2.1 ≤ ln) ∧ ((N_e3 f ln p tl T).1 = 1 → p + 2 ≤ (N_e3 f ln p tl T).2.1 ∧ (N_e3 f ln p tl T).2.2.1 = tl + 1 ∧ N_tr (N_e3 f ln p tl T).2.2.2 tl) ∧ (tl ≤ (N_e3 f ln p tl T).2.2.1 ∧ (N_e3 f ln p tl T).2.2.1 ≤ tl + 1) ∧ ∀ j : Nat, (j : Int) < 4 * tl → (N_e3 f ln p tl T).2.2.2 j = T j := by
  obtain ⟨a1, a2, a3⟩ := @N_n4 f ln p hp
  unfold N_e3
  split
  · exact ⟨Or.inl rfl, a2, fun q => by simp at q, ⟨by dsimp only; omega, by dsimp only; omega⟩, fun j hj => by dsimp only; rw [ja_rs_n (by omega)]⟩
  · rename_i hn
    dsimp only
    have hb := @ja_b_o (N_he f ln (N_nm f ln 4 p (-1)).2 = 59) _
    refine ⟨hb, ?_, fun q => ⟨by omega, rfl, ?_⟩, ⟨by omega, by omega⟩, fun j hj => by rw [ja_rs_n (by omega)]⟩
    · rcases hb with q | q
      · rw [q]
        omega
      · have hh : N_he f ln (N_nm f ln 4 p (-1)).2 = 59 := ja_b_1 (by rw [q]; decide)
        have := N_he_lt (f := f) (ln := ln) (p := (N_nm f ln 4 p (-1)).2) (by omega)
        rw [q]
        omega
    · unfold N_tr
      rw [ja_rs_n (by omega), ja_rs_n (by omega), ja_rs_n (by omega), ja_rs_s]
      exact ⟨h1.1, h1.2.1, h1.2.2, ⟨by omega, by omega⟩⟩
theorem N_e2_p {f : Nat → Int} {ln p tl : Int} {T : Nat → Int} (h0 : 0 ≤ tl) (hp : p ≤ ln) (h1 : (0 ≤ T (4 * tl).toNat ∧ T (4 * tl).toNat ≤ 2) ∧ ja_n4 (T (4 * tl + 1).toNat) ∧ (T (4 * tl + 2).toNat ≤ 9999)) : ((N_e2 f ln p tl T).1 = 0 ∨ (N_e2 f ln p tl T).1 = 1) ∧ (p ≤ (N_e2 f ln p tl T).2.1 ∧ (N_e2 f ln p tl T).2.1 ≤ ln) ∧ ((N_e2 f ln p tl T).1 = 1 → p + 3 ≤ (N_e2 f ln p tl T).2.1 ∧ (N_e2 f ln p tl T).2.2.1 = tl + 1 ∧ N_tr (N_e2 f ln p tl T).2.2.2 tl) ∧ (tl ≤ (N_e2 f ln p tl T).2.2.1 ∧ (N_e2 f ln p tl T).2.2.1 ≤ tl + 1) ∧ ∀ j : Nat, (j : Int) < 4 * tl → (N_e2 f ln p tl T).2.2.2 j = T j := by
  unfold N_e2
  split
  · exact ⟨Or.inl rfl, ⟨by dsimp only; omega, hp⟩, fun q => by simp at q, ⟨by dsimp only; omega, by dsimp only; omega⟩, fun j hj => rfl⟩
  · rename_i hn
    split
    · rename_i hh
      have hlt := N_he_lt (f := f) (ln := ln) (p := p) (by omega)
      obtain ⟨b1, b2, b3, b4, b5⟩ := @N_e3_p f ln (p + 1) tl T h0 (by omega) ⟨h1.1, h1.2.1, ⟨by omega, by omega⟩⟩
      exact ⟨b1, ⟨by omega, b2.2⟩, fun q => ⟨by have := (b3 q).1; omega, (b3 q).2⟩, b4, b5⟩
    · exact ⟨Or.inl rfl, ⟨by dsimp only; omega, hp⟩, fun q => by simp at q, ⟨by dsimp only; omega, by dsimp only; omega⟩, fun j hj => rfl⟩
theorem N_en_p {f : Nat → Int} {ln p tl : Int} {T : Nat → Int} (h0 : 0 ≤ tl) (hp : p ≤ ln) : N_ep f ln p tl T (N_en f ln p tl T) := by
  unfold N_ep N_en
  split
  · rename_i hc
    have hlt := N_he_lt (f := f) (ln := ln) (p := p) (by omega)
    obtain ⟨a1, a2, a3⟩ := @N_n4 f ln (p + 1) (by omega)
    have he := @N_e0_in (N_he f ln p)
    generalize N_e0 (N_he f ln p) = e at *
    have hT : ∀ j : Nat, (j : Int) < 4 * tl → N_et T tl e (N_nm f ln 4 (p + 1) (-1)).1 j = T j := fun j hj => by
      unfold N_et
      rw [ja_rs_n (by omega), ja_rs_n (by omega), ja_rs_n (by omega)]
    have t0 : N_et T tl e (N_nm f ln 4 (p + 1) (-1)).1 (4 * tl).toNat = e := by
      unfold N_et
      rw [ja_rs_n (by omega), ja_rs_n (by omega), ja_rs_s]
    have t1 : N_et T tl e (N_nm f ln 4 (p + 1) (-1)).1 (4 * tl + 1).toNat = (N_nm f ln 4 (p + 1) (-1)).1 := by
      unfold N_et
      rw [ja_rs_n (by omega), ja_rs_s]
    have t2 : N_et T tl e (N_nm f ln 4 (p + 1) (-1)).1 (4 * tl + 2).toNat = 0 := by
      unfold N_et
      rw [ja_rs_s]
    split
    · exact ⟨Or.inl rfl, ⟨by dsimp only; omega, a2.2⟩, fun q => by simp at q, ⟨by dsimp only; omega, by dsimp only; omega⟩, hT⟩
    · rename_i hn
      generalize (N_nm f ln 4 (p + 1) (-1)).1 = a at *
      generalize (N_nm f ln 4 (p + 1) (-1)).2 = p1 at *
      generalize N_et T tl e a = T1 at *
      unfold N_e1
      split
      · obtain ⟨b1, b2, b3, b4, b5⟩ := @N_e2_p f ln p1 tl T1 h0 a2.2 ⟨by omega, ⟨by omega, by omega⟩, by omega⟩
        exact ⟨b1, ⟨by omega, b2.2⟩, fun q => ⟨by have := (b3 q).1; omega, (b3 q).2⟩, b4, fun j hj => (b5 j hj).trans (hT j hj)⟩
      · split
        · rename_i hh
          have hlt2 := N_he_lt (f := f) (ln := ln) (p := p1) (by omega)
          obtain ⟨c1, c2, c3⟩ := @N_n4 f ln (p1 + 1) (by omega)
          obtain ⟨b1, b2, b3, b4, b5⟩ := @N_e2_p f ln (N_nm f ln 4 (p1 + 1) (-1)).2 tl (ja_rs T1 (4 * tl + 2).toNat (N_nm f ln 4 (p1 + 1) (-1)).1) h0 c2.2 ⟨by rw [ja_rs_n (by omega)]; omega, by rw [ja_rs_n (by omega)]; exact ⟨by omega, by omega⟩, by rw [ja_rs_s]; omega⟩
          exact ⟨b1, ⟨by omega, b2.2⟩, fun q => ⟨by have := (b3 q).1; omega, (b3 q).2⟩, b4, fun j hj => (b5 j hj).trans ((ja_rs_n (by omega)).trans (hT j hj))⟩
        · exact ⟨Or.inl rfl, ⟨by dsimp only; omega, a2.2⟩, fun q => by simp at q, ⟨by dsimp only; omega, by dsimp only; omega⟩, hT⟩
  · exact ⟨Or.inl rfl, ⟨by dsimp only; omega, hp⟩, fun q => by simp at q, ⟨by dsimp only; omega, by dsimp only; omega⟩, fun j hj => ja_rs_n (by omega)⟩
/-- a whole reading -/
theorem N_tx_p {f : Nat → Int} {ln : Int} : ∀ (k : Nat) (p tl : Int) (T : Nat → Int), 0 ≤ tl → 0 ≤ p → p ≤ ln → 5 * tl ≤ p → (∀ i : Int, 0 ≤ i → i < tl → N_tr T i) → ((N_tx f ln k p tl T).1 = 0 ∨ (N_tx f ln k p tl T).1 = 1) ∧ (p ≤ (N_tx f ln k p tl T).2.1 ∧ (N_tx f ln k p tl T).2.1 ≤ ln) ∧ (0 ≤ (N_tx f ln k p tl T).2.2.1 ∧ 5 * (N_tx f ln k p tl T).2.2.1 ≤ ln + 5) ∧ ((N_tx f ln k p tl T).1 = 1 → 5 * (N_tx f ln k p tl T).2.2.1 ≤ ln ∧ ∀ i : Int, 0 ≤ i → i < (N_tx f ln k p tl T).2.2.1 → N_tr (N_tx f ln k p tl T).2.2.2 i)
  | 0, p, tl, T, h0, h1, h2, h5, hT => ⟨Or.inr rfl, ⟨by simp only [N_tx]; omega, h2⟩, ⟨h0, by simp only [N_tx]; omega⟩, fun _ => ⟨by simp only [N_tx]; omega, hT⟩⟩
  | k + 1, p, tl, T, h0, h1, h2, h5, hT => by
    obtain ⟨e1, e2, e3, e4, e5⟩ := @N_en_p f ln p tl T h0 h2
    simp only [N_tx]
    split
    · split
      · rename_i hz
        exact ⟨e1, e2, ⟨by omega, by omega⟩, fun q => by omega⟩
      · rename_i hz
        obtain ⟨g1, g2, g3⟩ := e3 (by omega)
        have ih := @N_tx_p f ln k (N_en f ln p tl T).2.1 (N_en f ln p tl T).2.2.1 (N_en f ln p tl T).2.2.2 (by omega) (by omega) e2.2 (by omega) (fun i i0 i1 => by
          by_cases hi : i = tl
          · subst hi
            exact g3
          · exact N_tr_c (fun j hj => e5 j (by omega)) i0 (hT i i0 (by omega)))
        exact ⟨ih.1, ⟨by omega, ih.2.1.2⟩, ih.2.2⟩
    · exact ⟨Or.inr rfl, ⟨by dsimp only; omega, h2⟩, ⟨h0, by dsimp only; omega⟩, fun _ => ⟨by dsimp only; omega, hT⟩⟩
/-- arrival at place a of the told ones names what exists, at a time to come -/
abbrev N_ia (v T : Nat → Int) (i : Int) : Prop := (if T (4 * i).toNat = 0 then N_isF (T (4 * i + 1).toNat) else N_hP v (if T (4 * i).toNat = 1 then 1 else 0) (T (4 * i + 1).toNat) (T (4 * i + 2).toNat)) ∧ v 9 < T (4 * i + 3).toNat
def N_cas (v T : Nat → Int) : Nat → Nat → Int
  | 0, _ => 1
  | r + 1, i => if N_ia v T (i : Int) then N_cas v T r (i + 1) else 0
def N_cpp (v T : Nat → Int) : Nat → (Nat → Int)
  | 0 => v
  | c + 1 => ja_rs (N_cpp v T c) (2388 + 4 * v 25 + c).toNat (T c)
theorem N_cpp_n {v T : Nat → Int} {q : Nat} (h25 : 0 ≤ v 25) : ∀ c : Nat, ((q : Int) < 2388 + 4 * v 25 ∨ (2388 + 4 * v 25 + c : Int) ≤ q) → N_cpp v T c q = v q
  | 0, _ => rfl
  | c + 1, h => by
    simp only [N_cpp]
    rw [ja_rs_n (by omega)]
    exact N_cpp_n h25 c (by omega)
theorem N_cpp_s {v T : Nat → Int} (h25 : 0 ≤ v 25) : ∀ c j : Nat, j < c → N_cpp v T c (2388 + 4 * v 25 + j).toNat = T j
  | 0, j, hj => by omega
  | c + 1, j, hj => by
    simp only [N_cpp]
    by_cases hjc : j = c
    · subst hjc
      rw [ja_rs_s]
    · rw [ja_rs_n (by omega)]
      exact N_cpp_s h25 c j (by omega)
def N_sd (v T : Nat → Int) (tl : Int) : Nat → Int := ja_rs (N_cpp v T (4 * tl).toNat) 25 (v 25 + tl)
def N_sr (v : Nat → Int) (E : N_E) : Int := if E.1 = 0 then -1003 else if N_cas v E.2.2.2 E.2.2.1.toNat 0 = 0 then -1001 else if 24 < v 25 + E.2.2.1 then -1002 else E.2.2.1
def N_sw (v : Nat → Int) (E : N_E) : Nat → Int := if E.1 = 0 then v else if N_cas v E.2.2.2 E.2.2.1.toNat 0 = 0 then v else if 24 < v 25 + E.2.2.1 then v else N_sd v E.2.2.2 E.2.2.1
def N_rdt (G : ja_M) (m : Nat) : N_E := N_tx (G (m + 5)) (G m 5) 25 0 0 (G (m + 8))
abbrev N_rdG (G : ja_M) (m : Nat) : ja_M := N_tG G m (N_rdt G m).2.1 (N_rdt G m).2.2.1 (N_rdt G m).2.2.2
/-- the text's ranges -/
def N_TO (G : ja_M) (m : Nat) : Prop := (0 ≤ G m 5 ∧ G m 5 ≤ 120) ∧ ∀ j, 0 ≤ G (m + 5) j ∧ G (m + 5) j ≤ 126
end
section
abbrev rm_X9_here : Room := { frames := 0, cells := 0, slots := 0, locals := 0 }
set_option maxRecDepth 100000 in
set_option maxHeartbeats 800000 in
theorem c_X9_here (l : Launch) (D : va_G) (cA : Nat → ClassId) (B : Nat) {lay : ja_Y} {n : Nat} {m : Nat} {G : ja_M} {v : Nat → Int} (hM : ja_LM lay m) {p tl : Int} {T : Nat → Int} (hTO : N_TO G m) (hp : 0 ≤ p ∧ p ≤ 1000) : ja_Mt l D cA B yX9_here cX9_here 1 (some .int) rm_X9_here [.ref m] lay (ja_rw (N_tG G m p tl T) (m + 1) v) n (ja_rd lay (ja_rw (N_tG G m p tl T) (m + 1) v) n (some (.int (ja_I (N_he (G (m + 5)) (G m 5) p))))) := by
  refine ja_enter [some (.ref m)] (by decide) (Nat.le_of_ble_eq_true rfl) (fun q hq => hq) (fun C F Rt GC hnm => ?_)
  obtain ⟨h5, hch⟩ := id hTO
  refine r_aload_n F rfl rfl dX9_here_0 rfl ?_
  refine r_getI F f_X9_154 (hM.1) rfl dX9_here_1 rfl ?_
  refine r_eqz (z := p) (by rw [ja_rw_n (by omega), N_tG_10]) ?_
  refine r_aload_n F rfl rfl dX9_here_4 rfl ?_
  refine r_getI F f_X9_150 (hM.1) rfl dX9_here_5 rfl ?_
  refine r_eqz (z := G m 5) (by rw [ja_rw_n (by omega), N_tG_j (by omega) (by omega)]) ?_
  refine r_icmp_ge F (tgt := 23) ⟨by omega, by omega⟩ ⟨by omega, by omega⟩ dX9_here_8 rfl (by decide) (fun h_8 => ?_) (fun h_8 => ?_)
  ·
    refine r_iconst F dX9_here_23 rfl ?_
    exact r_iret F Rt dX9_here_24 (by decide) ⟨by unfold N_he; first | rw [if_pos (by omega)] | rw [if_neg (by omega)], rfl, rfl, rfl⟩
  ·
    refine r_aload_n F rfl rfl dX9_here_11 rfl ?_
    refine r_getR F f_X9_23 (hM.1) rfl dX9_here_12 rfl ?_
    refine r_aload_n F rfl rfl dX9_here_15 rfl ?_
    refine r_getI F f_X9_154 (hM.1) rfl dX9_here_16 rfl ?_
    refine r_eqz (z := p) (by rw [ja_rw_n (by omega), N_tG_10]) ?_
    refine r_iald F (ja_LM_5 hM) (by omega) (by omega) (by decide) dX9_here_19 rfl ?_
    refine r_eqz (z := (G (m + 5) (Int.toNat p))) (by rw [ja_rw_n (by omega), N_tG_o (by omega) (by omega)]) ?_
    refine r_goto F (tgt := 24) dX9_here_20 (by decide) ?_
    exact r_iret F Rt dX9_here_24 (by decide) ⟨by unfold N_he; first | rw [if_pos (by omega)] | rw [if_neg (by omega)], rfl, rfl, rfl⟩
abbrev rm_X9_takes_ : Room := { frames := 1, cells := 0, slots := 0, locals := 20 }
set_option maxRecDepth 100000 in
set_option maxHeartbeats 800000 in
theorem c_X9_takes_ (l : Launch) (D : va_G) (cA : Nat → ClassId) (B : Nat) {lay : ja_Y} {n : Nat} {m : Nat} {G : ja_M} {v : Nat → Int} (hM : ja_LM lay m) {p tl : Int} {T : Nat → Int} (hTO : N_TO G m) {c : Int} (hp : 0 ≤ p ∧ p ≤ 1000) (hc : 0 ≤ c ∧ c ≤ 126) : ja_Mt l D cA B yX9_takes_ cX9_takes_ 3 (some .boolean) rm_X9_takes_ [.ref m, .int (ja_I c)] lay (ja_rw (N_tG G m p tl T) (m + 1) v) n (ja_rd lay (ja_rw (N_tG G m (p + ja_b ((N_he (G (m + 5)) (G m 5) p) = c)) tl T) (m + 1) v) n (some (.int (ja_I (ja_b ((N_he (G (m + 5)) (G m 5) p) = c)))))) := by
  refine ja_enter [some (.ref m), some (.int (ja_I c)), none] (by decide) (Nat.le_of_ble_eq_true rfl) (fun q hq => hq) (fun C F Rt GC hnm => ?_)
  obtain ⟨h5, hch⟩ := id hTO
  have hh := @N_he_in (G (m + 5)) (G m 5) p hch
  have J13 : ja_W C 0 0 lay (ja_rw (N_tG G m p tl T) (m + 1) v) n 13 [some (.ref (m)), some (.int (ja_I (c))), none] [.int (ja_I (ja_b ((N_he (G (m + 5)) (G m 5) p) = c)))] := by
    refine r_ist2 F (by decide) rfl dX9_takes__13 rfl ?_
    refine r_aload_n F rfl rfl dX9_takes__14 rfl ?_
    refine r_dup F rfl dX9_takes__15 rfl ?_
    refine r_getI F f_X9_154 (hM.1) rfl dX9_takes__16 rfl ?_
    refine r_eqz (z := p) (by rw [ja_rw_n (by omega), N_tG_10]) ?_
    refine r_iload_n F rfl rfl dX9_takes__19 rfl ?_
    refine r_if_eq F (tgt := 27) ja_b_in dX9_takes__20 rfl (by decide) (fun h_20 => ?_) (fun h_20 => ?_)
    ·
      have b_20 : ¬ ((N_he (G (m + 5)) (G m 5) p) = c) := ja_b_0.mp h_20
      refine r_iconst F dX9_takes__27 rfl ?_
      refine r_iadd F dX9_takes__28 rfl ?_
      refine r_putI F f_X9_154 (hM.1) rfl dX9_takes__29 rfl ?_
      refine r_mem (mem' := ja_rw (ja_up (N_tG G m p tl T) m 10 ((p) + 0)) (m + 1) v) (ja_up_rw (by omega)) ?_
      refine r_iload_n F rfl rfl dX9_takes__32 rfl ?_
      exact r_zret F Rt ja_b_o dX9_takes__33 (by decide) ⟨rfl, rfl, by rw [N_tG_u10]; unfold ja_b; first | rw [if_pos b_20] | rw [if_neg b_20], rfl⟩
    ·
      have b_20 : ((N_he (G (m + 5)) (G m 5) p) = c) := ja_b_1 h_20
      refine r_iconst F dX9_takes__23 rfl ?_
      refine r_goto F (tgt := 28) dX9_takes__24 (by decide) ?_
      refine r_iadd F dX9_takes__28 rfl ?_
      refine r_putI F f_X9_154 (hM.1) rfl dX9_takes__29 rfl ?_
      refine r_mem (mem' := ja_rw (ja_up (N_tG G m p tl T) m 10 ((p) + 1)) (m + 1) v) (ja_up_rw (by omega)) ?_
      refine r_iload_n F rfl rfl dX9_takes__32 rfl ?_
      exact r_zret F Rt ja_b_o dX9_takes__33 (by decide) ⟨rfl, rfl, by rw [N_tG_u10]; unfold ja_b; first | rw [if_pos b_20] | rw [if_neg b_20], rfl⟩
  refine r_aload_n F rfl rfl dX9_takes__0 rfl ?_
  refine r_callV F GC (c_X9_here _ _ _ _ hM hTO hp) v_X9_157 rfl (hM.1) rfl (by decide) (by decide) (Nat.le_of_ble_eq_true rfl) rfl dX9_takes__1 rfl (fun v lay' mem' n' hp => ?_)
  obtain ⟨q1, q2, q3, q4⟩ := hp
  subst q1; subst q2; subst q3; subst q4
  refine r_iload_n F rfl rfl dX9_takes__4 rfl ?_
  refine r_icmp_ne F (tgt := 12) ⟨by omega, by omega⟩ ⟨by omega, by omega⟩ dX9_takes__5 rfl (by decide) (fun h_5 => ?_) (fun h_5 => ?_)
  ·
    refine r_iconst F dX9_takes__12 rfl ?_
    refine r_eqz (z := ja_b ((N_he (G (m + 5)) (G m 5) p) = c)) (by unfold ja_b; first | rw [if_pos (by omega)] | rw [if_neg (by omega)]) ?_
    exact J13
  ·
    refine r_iconst F dX9_takes__8 rfl ?_
    refine r_goto F (tgt := 13) dX9_takes__9 (by decide) ?_
    refine r_eqz (z := ja_b ((N_he (G (m + 5)) (G m 5) p) = c)) (by unfold ja_b; first | rw [if_pos (by omega)] | rw [if_neg (by omega)]) ?_
    exact J13
abbrev rm_X9_number : Room := { frames := 1, cells := 0, slots := 0, locals := 22 }
set_option maxRecDepth 100000 in
set_option maxHeartbeats 800000 in
theorem c_X9_number (l : Launch) (D : va_G) (cA : Nat → ClassId) (B : Nat) {lay : ja_Y} {n : Nat} {m : Nat} {G : ja_M} {v : Nat → Int} (hM : ja_LM lay m) {p tl : Int} {T : Nat → Int} (hTO : N_TO G m) (hp : 0 ≤ p ∧ p ≤ 1000) (hpl : p ≤ G m 5) : ja_Mt l D cA B yX9_number cX9_number 3 (some .int) rm_X9_number [.ref m] lay (ja_rw (N_tG G m p tl T) (m + 1) v) n (ja_rd lay (ja_rw (N_tG G m (N_nm (G (m + 5)) (G m 5) 4 p (-1)).2 tl T) (m + 1) v) n (some (.int (ja_I (N_nm (G (m + 5)) (G m 5) 4 p (-1)).1)))) := by
  refine ja_enter [some (.ref m), none, none] (by decide) (Nat.le_of_ble_eq_true rfl) (fun q hq => hq) (fun C F Rt GC hnm => ?_)
  obtain ⟨h5, hch⟩ := id hTO
  refine r_iconst F dX9_number_0 rfl ?_
  refine r_ist1 F (by decide) rfl dX9_number_1 rfl ?_
  refine r_aload_n F rfl rfl dX9_number_2 rfl ?_
  refine r_getI F f_X9_154 (hM.1) rfl dX9_number_3 rfl ?_
  refine r_eqz (z := p) (by rw [ja_rw_n (by omega), N_tG_10]) ?_
  refine r_ist2 F (by decide) rfl dX9_number_6 rfl ?_
  have loop : ∀ (d : Nat) (q z : Int), q - p + d = 4 → p ≤ q → N_dg d z → q ≤ (G m 5) → N_nm (G (m + 5)) (G m 5) d q z = (N_nm (G (m + 5)) (G m 5) 4 p (-1)) → ja_W C 0 0 lay (ja_rw (N_tG G m q tl T) (m + 1) v) n 7 [some (.ref m), some (.int (ja_I z)), some (.int (ja_I p))] [] := by
    intro d
    induction d with
    | zero =>
      intro q z hq hpq hz hqn hl
      have hzi := N_dg_in hz
      have hh := @N_he_in (G (m + 5)) (G m 5) q hch
      refine r_aload_n F rfl rfl dX9_number_7 rfl ?_
      refine r_getI F f_X9_154 (hM.1) rfl dX9_number_8 rfl ?_
      refine r_eqz (z := q) (by rw [ja_rw_n (by omega), N_tG_10]) ?_
      refine r_iload_n F rfl rfl dX9_number_11 rfl ?_
      refine r_isub F dX9_number_12 rfl ?_
      refine r_iconst F dX9_number_13 rfl ?_
      refine r_icmp_ge F (tgt := 65) ⟨by omega, by omega⟩ ⟨by omega, by omega⟩ dX9_number_14 rfl (by decide) (fun h_14 => ?_) (fun h_14 => ?_)
      ·
        refine r_iload_n F rfl rfl dX9_number_65 rfl ?_
        exact r_iret F Rt dX9_number_66 (by decide) ⟨by rw [← hl]; rfl, rfl, by rw [← hl]; rfl, rfl⟩
      ·
        exfalso; omega
    | succ d ih =>
      intro q z hq hpq hz hqn hl
      have hzi := N_dg_in hz
      have hh := @N_he_in (G (m + 5)) (G m 5) q hch
      refine r_aload_n F rfl rfl dX9_number_7 rfl ?_
      refine r_getI F f_X9_154 (hM.1) rfl dX9_number_8 rfl ?_
      refine r_eqz (z := q) (by rw [ja_rw_n (by omega), N_tG_10]) ?_
      refine r_iload_n F rfl rfl dX9_number_11 rfl ?_
      refine r_isub F dX9_number_12 rfl ?_
      refine r_iconst F dX9_number_13 rfl ?_
      refine r_icmp_ge F (tgt := 65) ⟨by omega, by omega⟩ ⟨by omega, by omega⟩ dX9_number_14 rfl (by decide) (fun h_14 => ?_) (fun h_14 => ?_)
      ·
        exfalso; omega
      ·
        refine r_aload_n F rfl rfl dX9_number_17 rfl ?_
        refine r_callV F GC (c_X9_here _ _ _ _ hM hTO ⟨by omega, by omega⟩) v_X9_157 rfl (hM.1) rfl (by decide) (by decide) (Nat.le_of_ble_eq_true rfl) rfl dX9_number_18 rfl (fun v lay' mem' n' hp => ?_)
        obtain ⟨q1, q2, q3, q4⟩ := hp
        subst q1; subst q2; subst q3; subst q4
        refine r_bipush F (by decide) dX9_number_21 rfl ?_
        refine r_bipush F (by decide) dX9_number_23 rfl ?_
        refine r_callS F GC (c_X9_in _ _ _ _ ⟨by omega, by omega⟩ ⟨by omega, by omega⟩ ⟨by omega, by omega⟩) s_X9_35 rfl (by decide) (by decide) (Nat.le_of_ble_eq_true rfl) rfl dX9_number_25 rfl (fun v lay' mem' n' hp => ?_)
        obtain ⟨q1, q2, q3, q4⟩ := hp
        subst q1; subst q2; subst q3; subst q4
        refine r_if_eq F (tgt := 65) ja_b_in dX9_number_28 rfl (by decide) (fun h_28 => ?_) (fun h_28 => ?_)
        ·
          have b_28 : ¬ (48 ≤ (N_he (G (m + 5)) (G m 5) q) ∧ (N_he (G (m + 5)) (G m 5) q) ≤ 57) := ja_b_0.mp h_28
          refine r_iload_n F rfl rfl dX9_number_65 rfl ?_
          exact r_iret F Rt dX9_number_66 (by decide) ⟨by rw [← hl]; simp only [N_nm]; rw [if_neg b_28], rfl, by rw [← hl]; simp only [N_nm]; rw [if_neg b_28], rfl⟩
        ·
          have b_28 : (48 ≤ (N_he (G (m + 5)) (G m 5) q) ∧ (N_he (G (m + 5)) (G m 5) q) ≤ 57) := ja_b_1 h_28
          have hlt := N_he_lt (f := (G (m + 5))) (ln := (G m 5)) (p := q) (by omega)
          have hdg := N_dg_s hz b_28
          refine r_iload_n F rfl rfl dX9_number_31 rfl ?_
          refine r_if_ge F (tgt := 39) ⟨by omega, by omega⟩ dX9_number_32 rfl (by decide) (fun h_32 => ?_) (fun h_32 => ?_)
          ·
            refine r_bipush F (by decide) dX9_number_39 rfl ?_
            refine r_iload_n F rfl rfl dX9_number_41 rfl ?_
            refine r_imul F dX9_number_42 rfl ?_
            refine r_aload_n F rfl rfl dX9_number_43 rfl ?_
            refine r_callV F GC (c_X9_here _ _ _ _ hM hTO ⟨by omega, by omega⟩) v_X9_157 rfl (hM.1) rfl (by decide) (by decide) (Nat.le_of_ble_eq_true rfl) rfl dX9_number_44 rfl (fun v lay' mem' n' hp => ?_)
            obtain ⟨q1, q2, q3, q4⟩ := hp
            subst q1; subst q2; subst q3; subst q4
            refine r_iadd F dX9_number_47 rfl ?_
            refine r_bipush F (by decide) dX9_number_48 rfl ?_
            refine r_isub F dX9_number_50 rfl ?_
            refine r_ist1 F (by decide) rfl dX9_number_51 rfl ?_
            refine r_aload_n F rfl rfl dX9_number_52 rfl ?_
            refine r_dup F rfl dX9_number_53 rfl ?_
            refine r_getI F f_X9_154 (hM.1) rfl dX9_number_54 rfl ?_
            refine r_eqz (z := q) (by rw [ja_rw_n (by omega), N_tG_10]) ?_
            refine r_iconst F dX9_number_57 rfl ?_
            refine r_iadd F dX9_number_58 rfl ?_
            refine r_putI F f_X9_154 (hM.1) rfl dX9_number_59 rfl ?_
            refine r_mem (mem' := ja_rw (ja_up (N_tG G m q tl T) m 10 ((q) + 1)) (m + 1) v) (ja_up_rw (by omega)) ?_
            refine r_goto F (tgt := 7) dX9_number_62 (by decide) ?_
            rw [N_tG_u10]
            refine ih (q + 1) _ (by omega) (by omega) ?_ (by omega) ?_
            · first
              | (rw [if_pos (by omega)] at hdg; exact hdg)
              | (rw [if_neg (by omega)] at hdg; exact hdg)
            · rw [← hl]; simp only [N_nm]; rw [if_pos b_28]; first | rw [if_pos (show z < 0 by omega)] | rw [if_neg (show ¬ z < 0 by omega)]
          ·
            refine r_iconst F dX9_number_35 rfl ?_
            refine r_goto F (tgt := 43) dX9_number_36 (by decide) ?_
            refine r_aload_n F rfl rfl dX9_number_43 rfl ?_
            refine r_callV F GC (c_X9_here _ _ _ _ hM hTO ⟨by omega, by omega⟩) v_X9_157 rfl (hM.1) rfl (by decide) (by decide) (Nat.le_of_ble_eq_true rfl) rfl dX9_number_44 rfl (fun v lay' mem' n' hp => ?_)
            obtain ⟨q1, q2, q3, q4⟩ := hp
            subst q1; subst q2; subst q3; subst q4
            refine r_iadd F dX9_number_47 rfl ?_
            refine r_bipush F (by decide) dX9_number_48 rfl ?_
            refine r_isub F dX9_number_50 rfl ?_
            refine r_ist1 F (by decide) rfl dX9_number_51 rfl ?_
            refine r_aload_n F rfl rfl dX9_number_52 rfl ?_
            refine r_dup F rfl dX9_number_53 rfl ?_
            refine r_getI F f_X9_154 (hM.1) rfl dX9_number_54 rfl ?_
            refine r_eqz (z := q) (by rw [ja_rw_n (by omega), N_tG_10]) ?_
            refine r_iconst F dX9_number_57 rfl ?_
            refine r_iadd F dX9_number_58 rfl ?_
            refine r_putI F f_X9_154 (hM.1) rfl dX9_number_59 rfl ?_
            refine r_mem (mem' := ja_rw (ja_up (N_tG G m q tl T) m 10 ((q) + 1)) (m + 1) v) (ja_up_rw (by omega)) ?_
            refine r_goto F (tgt := 7) dX9_number_62 (by decide) ?_
            rw [N_tG_u10]
            refine ih (q + 1) _ (by omega) (by omega) ?_ (by omega) ?_
            · first
              | (rw [if_pos (by omega)] at hdg; exact hdg)
              | (rw [if_neg (by omega)] at hdg; exact hdg)
            · rw [← hl]; simp only [N_nm]; rw [if_pos b_28]; first | rw [if_pos (show z < 0 by omega)] | rw [if_neg (show ¬ z < 0 by omega)]
  exact loop 4 p (-1) (by omega) (by omega) N_dg4 hpl rfl
abbrev rm_X9_isEntry : Room := { frames := 2, cells := 0, slots := 0, locals := 44 }
set_option maxRecDepth 100000 in
set_option maxHeartbeats 800000 in
theorem c_X9_isEntry (l : Launch) (D : va_G) (cA : Nat → ClassId) (B : Nat) {lay : ja_Y} {n : Nat} {m : Nat} {G : ja_M} {v : Nat → Int} (hM : ja_LM lay m) {p tl : Int} {T : Nat → Int} (hTO : N_TO G m) (hp : 0 ≤ p ∧ p ≤ G m 5) (htl : 0 ≤ tl ∧ 5 * tl ≤ p) : ja_Mt l D cA B yX9_isEntry cX9_isEntry 3 (some .boolean) rm_X9_isEntry [.ref m] lay (ja_rw (N_tG G m p tl T) (m + 1) v) n (ja_rd lay (ja_rw (N_tG G m (N_en (G (m + 5)) (G m 5) p tl T).2.1 (N_en (G (m + 5)) (G m 5) p tl T).2.2.1 (N_en (G (m + 5)) (G m 5) p tl T).2.2.2) (m + 1) v) n (some (.int (ja_I (N_en (G (m + 5)) (G m 5) p tl T).1)))) := by
  refine ja_enter [some (.ref m), none, none] (by decide) (Nat.le_of_ble_eq_true rfl) (fun q hq => hq) (fun C F Rt GC hnm => ?_)
  obtain ⟨h5, hch⟩ := id hTO
  have hhp := @N_he_in (G (m + 5)) (G m 5) p hch
  refine r_iconst F dX9_isEntry_0 rfl ?_
  refine r_aload_n F rfl rfl dX9_isEntry_1 rfl ?_
  refine r_getI F f_X9_160 (hM.1) rfl dX9_isEntry_2 rfl ?_
  refine r_eqz (z := tl) (by rw [ja_rw_n (by omega), N_tG_9]) ?_
  refine r_imul F dX9_isEntry_5 rfl ?_
  refine r_ist1 F (by decide) rfl dX9_isEntry_6 rfl ?_
  refine r_aload_n F rfl rfl dX9_isEntry_7 rfl ?_
  refine r_callV F GC (c_X9_here _ _ _ _ hM hTO ⟨by omega, by omega⟩) v_X9_157 rfl (hM.1) rfl (by decide) (by decide) (Nat.le_of_ble_eq_true rfl) rfl dX9_isEntry_8 rfl (fun v lay' mem' n' hp => ?_)
  obtain ⟨q1, q2, q3, q4⟩ := hp
  subst q1; subst q2; subst q3; subst q4
  refine r_ist2 F (by decide) rfl dX9_isEntry_11 rfl ?_
  refine r_aload_n F rfl rfl dX9_isEntry_12 rfl ?_
  refine r_getR F f_X9_32 (hM.1) rfl dX9_isEntry_13 rfl ?_
  refine r_iload_n F rfl rfl dX9_isEntry_16 rfl ?_
  have J38 : ja_W C 0 0 lay (ja_rw (N_tG G m p tl T) (m + 1) v) n 38 [some (.ref (m)), some (.int (ja_I ((4 * (tl))))), some (.int (ja_I ((N_he (G (m + 5)) (G m 5) p))))] [.int (ja_I (N_e0 (N_he (G (m + 5)) (G m 5) p))), .int (ja_I ((4 * (tl)))), .ref ((m + 8))] := by
    refine r_iast F (ja_LM_8 hM) (by omega) (by omega) (by decide) dX9_isEntry_38 rfl ?_
    refine r_mem (mem' := ja_rw (ja_up (N_tG G m p tl T) (m + 8) (Int.toNat (4 * (tl))) (N_e0 (N_he (G (m + 5)) (G m 5) p))) (m + 1) v) (ja_up_rw (by omega)) ?_
    have J157 : ∀ (q : Int) (T2 : Nat → Int), 0 ≤ q → q ≤ (G m 5) → N_e3 (G (m + 5)) (G m 5) q tl T2 = (N_en (G (m + 5)) (G m 5) p tl T) → ja_W C 0 0 lay (ja_rw (N_tG G m q tl T2) (m + 1) v) n 157 [some (.ref m), some (.int (ja_I (4 * tl))), some (.int (ja_I (N_he (G (m + 5)) (G m 5) p)))] [] := by
      intro q T2 hq0 hql hl
      obtain ⟨a1, a2, a3⟩ := @N_n4 (G (m + 5)) (G m 5) q hql
      have hh := @N_he_in (G (m + 5)) (G m 5) (N_nm (G (m + 5)) (G m 5) 4 q (-1)).2 hch
      refine r_aload_n F rfl rfl dX9_isEntry_157 rfl ?_
      refine r_getR F f_X9_32 (hM.1) rfl dX9_isEntry_158 rfl ?_
      refine r_iload_n F rfl rfl dX9_isEntry_161 rfl ?_
      refine r_iconst F dX9_isEntry_162 rfl ?_
      refine r_iadd F dX9_isEntry_163 rfl ?_
      refine r_aload_n F rfl rfl dX9_isEntry_164 rfl ?_
      refine r_callV F GC (c_X9_number _ _ _ _ hM hTO ⟨by omega, by omega⟩ hql) v_X9_163 rfl (hM.1) rfl (by decide) (by decide) (Nat.le_of_ble_eq_true rfl) rfl dX9_isEntry_165 rfl (fun v lay' mem' n' hp => ?_)
      obtain ⟨q1, q2, q3, q4⟩ := hp
      subst q1; subst q2; subst q3; subst q4
      refine r_iast F (ja_LM_8 hM) (by omega) (by omega) (by decide) dX9_isEntry_168 rfl ?_
      refine r_mem (mem' := ja_rw (ja_up (N_tG G m (N_nm (G (m + 5)) (G m 5) 4 q (-1)).2 tl T2) (m + 8) (Int.toNat ((4 * tl) + 3)) (N_nm (G (m + 5)) (G m 5) 4 q (-1)).1) (m + 1) v) (ja_up_rw (by omega)) ?_
      refine r_mem (mem' := ja_rw (N_tG G m (N_nm (G (m + 5)) (G m 5) 4 q (-1)).2 tl (ja_rs T2 (Int.toNat (4 * tl + 3)) (N_nm (G (m + 5)) (G m 5) 4 q (-1)).1)) (m + 1) v) (by rw [N_tG_u8]) ?_
      refine r_aload_n F rfl rfl dX9_isEntry_169 rfl ?_
      refine r_dup F rfl dX9_isEntry_170 rfl ?_
      refine r_getI F f_X9_160 (hM.1) rfl dX9_isEntry_171 rfl ?_
      refine r_eqz (z := tl) (by rw [ja_rw_n (by omega), N_tG_9]) ?_
      refine r_iconst F dX9_isEntry_174 rfl ?_
      refine r_iadd F dX9_isEntry_175 rfl ?_
      refine r_putI F f_X9_160 (hM.1) rfl dX9_isEntry_176 rfl ?_
      refine r_mem (mem' := ja_rw (ja_up (N_tG G m (N_nm (G (m + 5)) (G m 5) 4 q (-1)).2 tl (ja_rs T2 (Int.toNat (4 * tl + 3)) (N_nm (G (m + 5)) (G m 5) 4 q (-1)).1)) m 9 ((tl) + 1)) (m + 1) v) (ja_up_rw (by omega)) ?_
      refine r_mem (mem' := ja_rw (N_tG G m (N_nm (G (m + 5)) (G m 5) 4 q (-1)).2 (tl + 1) (ja_rs T2 (Int.toNat (4 * tl + 3)) (N_nm (G (m + 5)) (G m 5) 4 q (-1)).1)) (m + 1) v) (by rw [N_tG_u9]) ?_
      refine r_aload_n F rfl rfl dX9_isEntry_179 rfl ?_
      refine r_getR F f_X9_32 (hM.1) rfl dX9_isEntry_180 rfl ?_
      refine r_iload_n F rfl rfl dX9_isEntry_183 rfl ?_
      refine r_iconst F dX9_isEntry_184 rfl ?_
      refine r_iadd F dX9_isEntry_185 rfl ?_
      refine r_iald F (ja_LM_8 hM) (by omega) (by omega) (by decide) dX9_isEntry_186 rfl ?_
      refine r_eqz (z := (N_nm (G (m + 5)) (G m 5) 4 q (-1)).1) (by rw [ja_rw_n (by omega), N_tG_8, ja_rs_s]) ?_
      refine r_if_lt F (tgt := 203) ⟨by omega, by omega⟩ dX9_isEntry_187 rfl (by decide) (fun h_187 => ?_) (fun h_187 => ?_)
      ·
        have he3 : (N_en (G (m + 5)) (G m 5) p tl T) = (0, (N_nm (G (m + 5)) (G m 5) 4 q (-1)).2, tl + 1, (ja_rs T2 (Int.toNat (4 * tl + 3)) (N_nm (G (m + 5)) (G m 5) 4 q (-1)).1)) := by rw [← hl, N_e3, if_pos (by omega)]
        refine r_iconst F dX9_isEntry_203 rfl ?_
        exact r_zret F Rt (by omega) dX9_isEntry_204 (by decide) ⟨by first | (rw [he3]; done) | (rw [he3]; exact congrArg (fun z => some (Value.int (ja_I z))) hb0), rfl, by rw [he3], rfl⟩
      ·
        have he3 : (N_en (G (m + 5)) (G m 5) p tl T) = (ja_b ((N_he (G (m + 5)) (G m 5) (N_nm (G (m + 5)) (G m 5) 4 q (-1)).2) = 59), (N_nm (G (m + 5)) (G m 5) 4 q (-1)).2 + ja_b ((N_he (G (m + 5)) (G m 5) (N_nm (G (m + 5)) (G m 5) 4 q (-1)).2) = 59), tl + 1, (ja_rs T2 (Int.toNat (4 * tl + 3)) (N_nm (G (m + 5)) (G m 5) 4 q (-1)).1)) := by rw [← hl, N_e3, if_neg (by omega)]
        refine r_aload_n F rfl rfl dX9_isEntry_190 rfl ?_
        refine r_bipush F (by decide) dX9_isEntry_191 rfl ?_
        refine r_callV F GC (c_X9_takes_ _ _ _ _ hM hTO ⟨by omega, by omega⟩ ⟨by omega, by omega⟩) v_X9_166 rfl (hM.1) rfl (by decide) (by decide) (Nat.le_of_ble_eq_true rfl) rfl dX9_isEntry_193 rfl (fun v lay' mem' n' hp => ?_)
        obtain ⟨q1, q2, q3, q4⟩ := hp
        subst q1; subst q2; subst q3; subst q4
        refine r_if_eq F (tgt := 203) ja_b_in dX9_isEntry_196 rfl (by decide) (fun h_196 => ?_) (fun h_196 => ?_)
        ·
          have b_196 : ¬ ((N_he (G (m + 5)) (G m 5) (N_nm (G (m + 5)) (G m 5) 4 q (-1)).2) = 59) := ja_b_0.mp h_196
          have hb0 : ja_b ((N_he (G (m + 5)) (G m 5) (N_nm (G (m + 5)) (G m 5) 4 q (-1)).2) = 59) = 0 := ja_b_0.mpr b_196
          refine r_iconst F dX9_isEntry_203 rfl ?_
          exact r_zret F Rt (by omega) dX9_isEntry_204 (by decide) ⟨by first | (rw [he3]; done) | (rw [he3]; exact congrArg (fun z => some (Value.int (ja_I z))) hb0), rfl, by rw [he3], rfl⟩
        ·
          have b_196 : ((N_he (G (m + 5)) (G m 5) (N_nm (G (m + 5)) (G m 5) 4 q (-1)).2) = 59) := ja_b_1 h_196
          have hb1 : ja_b ((N_he (G (m + 5)) (G m 5) (N_nm (G (m + 5)) (G m 5) 4 q (-1)).2) = 59) = 1 := if_pos b_196
          refine r_iconst F dX9_isEntry_199 rfl ?_
          refine r_goto F (tgt := 204) dX9_isEntry_200 (by decide) ?_
          exact r_zret F Rt (by omega) dX9_isEntry_204 (by decide) ⟨by rw [he3]; exact congrArg (fun z => some (Value.int (ja_I z))) hb1, rfl, by rw [he3], rfl⟩
    have J135 : ∀ (q : Int) (T2 : Nat → Int), 0 ≤ q → q ≤ (G m 5) → (-1 ≤ T2 (Int.toNat (4 * tl + 2)) ∧ T2 (Int.toNat (4 * tl + 2)) ≤ 9999) → N_e2 (G (m + 5)) (G m 5) q tl T2 = (N_en (G (m + 5)) (G m 5) p tl T) → ja_W C 0 0 lay (ja_rw (N_tG G m q tl T2) (m + 1) v) n 135 [some (.ref m), some (.int (ja_I (4 * tl))), some (.int (ja_I (N_he (G (m + 5)) (G m 5) p)))] [] := by
      intro q T2 hq0 hql ht2 hl
      have hh := @N_he_in (G (m + 5)) (G m 5) q hch
      refine r_aload_n F rfl rfl dX9_isEntry_135 rfl ?_
      refine r_getR F f_X9_32 (hM.1) rfl dX9_isEntry_136 rfl ?_
      refine r_iload_n F rfl rfl dX9_isEntry_139 rfl ?_
      refine r_iconst F dX9_isEntry_140 rfl ?_
      refine r_iadd F dX9_isEntry_141 rfl ?_
      refine r_iald F (ja_LM_8 hM) (by omega) (by omega) (by decide) dX9_isEntry_142 rfl ?_
      refine r_eqz (z := (T2 (Int.toNat (4 * tl + 2)))) (by rw [ja_rw_n (by omega), N_tG_8]) ?_
      refine r_if_lt F (tgt := 155) ⟨by omega, by omega⟩ dX9_isEntry_143 rfl (by decide) (fun h_143 => ?_) (fun h_143 => ?_)
      ·
        have he2 : (N_en (G (m + 5)) (G m 5) p tl T) = (0, q, tl, T2) := by rw [← hl, N_e2, if_pos (by omega)]
        refine r_iconst F dX9_isEntry_155 rfl ?_
        exact r_zret F Rt (by omega) dX9_isEntry_156 (by decide) ⟨by rw [he2], rfl, by first | (rw [he2]; done) | rw [he2, hb0, Int.add_zero], rfl⟩
      ·
        refine r_aload_n F rfl rfl dX9_isEntry_146 rfl ?_
        refine r_bipush F (by decide) dX9_isEntry_147 rfl ?_
        refine r_callV F GC (c_X9_takes_ _ _ _ _ hM hTO ⟨by omega, by omega⟩ ⟨by omega, by omega⟩) v_X9_166 rfl (hM.1) rfl (by decide) (by decide) (Nat.le_of_ble_eq_true rfl) rfl dX9_isEntry_149 rfl (fun v lay' mem' n' hp => ?_)
        obtain ⟨q1, q2, q3, q4⟩ := hp
        subst q1; subst q2; subst q3; subst q4
        refine r_if_ne F (tgt := 157) ja_b_in dX9_isEntry_152 rfl (by decide) (fun h_152 => ?_) (fun h_152 => ?_)
        ·
          have b_152 : ((N_he (G (m + 5)) (G m 5) q) = 64) := ja_b_1 h_152
          have hlt := N_he_lt (f := (G (m + 5))) (ln := (G m 5)) (p := q) (by omega)
          have hb1 : ja_b ((N_he (G (m + 5)) (G m 5) q) = 64) = 1 := if_pos b_152
          rw [hb1]
          exact J157 (q + 1) T2 (by omega) (by omega) (by rw [← hl, N_e2, if_neg (by omega), if_pos b_152])
        ·
          have b_152 : ¬ ((N_he (G (m + 5)) (G m 5) q) = 64) := ja_b_0.mp h_152
          have he2 : (N_en (G (m + 5)) (G m 5) p tl T) = (0, q, tl, T2) := by rw [← hl, N_e2, if_neg (by omega), if_neg b_152]
          have hb0 : ja_b ((N_he (G (m + 5)) (G m 5) q) = 64) = 0 := ja_b_0.mpr b_152
          refine r_iconst F dX9_isEntry_155 rfl ?_
          exact r_zret F Rt (by omega) dX9_isEntry_156 (by decide) ⟨by rw [he2], rfl, by first | (rw [he2]; done) | rw [he2, hb0, Int.add_zero], rfl⟩
    have J59 : ((N_he (G (m + 5)) (G m 5) p) = 100 ∨ (N_he (G (m + 5)) (G m 5) p) = 114 ∨ (N_he (G (m + 5)) (G m 5) p) = 99) → ja_W C 0 0 lay (ja_rw (N_tG G m p tl (ja_rs T (Int.toNat (4 * tl)) (N_e0 (N_he (G (m + 5)) (G m 5) p)))) (m + 1) v) n 59 [some (.ref m), some (.int (ja_I (4 * tl))), some (.int (ja_I (N_he (G (m + 5)) (G m 5) p)))] [] := by
      intro hc3
      have hlt := N_he_lt (f := (G (m + 5))) (ln := (G m 5)) (p := p) (by omega)
      obtain ⟨a1, a2, a3⟩ := @N_n4 (G (m + 5)) (G m 5) (p + 1) (by omega)
      have he0 := @N_e0_in (N_he (G (m + 5)) (G m 5) p)
      refine r_aload_n F rfl rfl dX9_isEntry_59 rfl ?_
      refine r_dup F rfl dX9_isEntry_60 rfl ?_
      refine r_getI F f_X9_154 (hM.1) rfl dX9_isEntry_61 rfl ?_
      refine r_eqz (z := p) (by rw [ja_rw_n (by omega), N_tG_10]) ?_
      refine r_iconst F dX9_isEntry_64 rfl ?_
      refine r_iadd F dX9_isEntry_65 rfl ?_
      refine r_putI F f_X9_154 (hM.1) rfl dX9_isEntry_66 rfl ?_
      refine r_mem (mem' := ja_rw (ja_up (N_tG G m p tl (ja_rs T (Int.toNat (4 * tl)) (N_e0 (N_he (G (m + 5)) (G m 5) p)))) m 10 ((p) + 1)) (m + 1) v) (ja_up_rw (by omega)) ?_
      refine r_mem (mem' := ja_rw (N_tG G m (p + 1) tl (ja_rs T (Int.toNat (4 * tl)) (N_e0 (N_he (G (m + 5)) (G m 5) p)))) (m + 1) v) (by rw [N_tG_u10]) ?_
      refine r_aload_n F rfl rfl dX9_isEntry_69 rfl ?_
      refine r_getR F f_X9_32 (hM.1) rfl dX9_isEntry_70 rfl ?_
      refine r_iload_n F rfl rfl dX9_isEntry_73 rfl ?_
      refine r_iconst F dX9_isEntry_74 rfl ?_
      refine r_iadd F dX9_isEntry_75 rfl ?_
      refine r_aload_n F rfl rfl dX9_isEntry_76 rfl ?_
      refine r_callV F GC (c_X9_number _ _ _ _ hM hTO ⟨by omega, by omega⟩ (by omega)) v_X9_163 rfl (hM.1) rfl (by decide) (by decide) (Nat.le_of_ble_eq_true rfl) rfl dX9_isEntry_77 rfl (fun v lay' mem' n' hp => ?_)
      obtain ⟨q1, q2, q3, q4⟩ := hp
      subst q1; subst q2; subst q3; subst q4
      refine r_iast F (ja_LM_8 hM) (by omega) (by omega) (by decide) dX9_isEntry_80 rfl ?_
      refine r_mem (mem' := ja_rw (ja_up (N_tG G m (N_nm (G (m + 5)) (G m 5) 4 (p + 1) (-1)).2 tl (ja_rs T (Int.toNat (4 * tl)) (N_e0 (N_he (G (m + 5)) (G m 5) p)))) (m + 8) (Int.toNat ((4 * tl) + 1)) (N_nm (G (m + 5)) (G m 5) 4 (p + 1) (-1)).1) (m + 1) v) (ja_up_rw (by omega)) ?_
      refine r_mem (mem' := ja_rw (N_tG G m (N_nm (G (m + 5)) (G m 5) 4 (p + 1) (-1)).2 tl (ja_rs (ja_rs T (Int.toNat (4 * tl)) (N_e0 (N_he (G (m + 5)) (G m 5) p))) (Int.toNat (4 * tl + 1)) (N_nm (G (m + 5)) (G m 5) 4 (p + 1) (-1)).1)) (m + 1) v) (by rw [N_tG_u8]) ?_
      refine r_aload_n F rfl rfl dX9_isEntry_81 rfl ?_
      refine r_getR F f_X9_32 (hM.1) rfl dX9_isEntry_82 rfl ?_
      refine r_iload_n F rfl rfl dX9_isEntry_85 rfl ?_
      refine r_iconst F dX9_isEntry_86 rfl ?_
      refine r_iadd F dX9_isEntry_87 rfl ?_
      refine r_iconst F dX9_isEntry_88 rfl ?_
      refine r_iast F (ja_LM_8 hM) (by omega) (by omega) (by decide) dX9_isEntry_89 rfl ?_
      refine r_mem (mem' := ja_rw (ja_up (N_tG G m (N_nm (G (m + 5)) (G m 5) 4 (p + 1) (-1)).2 tl (ja_rs (ja_rs T (Int.toNat (4 * tl)) (N_e0 (N_he (G (m + 5)) (G m 5) p))) (Int.toNat (4 * tl + 1)) (N_nm (G (m + 5)) (G m 5) 4 (p + 1) (-1)).1)) (m + 8) (Int.toNat ((4 * tl) + 2)) 0) (m + 1) v) (ja_up_rw (by omega)) ?_
      refine r_mem (mem' := ja_rw (N_tG G m (N_nm (G (m + 5)) (G m 5) 4 (p + 1) (-1)).2 tl (N_et T tl (N_e0 (N_he (G (m + 5)) (G m 5) p)) (N_nm (G (m + 5)) (G m 5) 4 (p + 1) (-1)).1)) (m + 1) v) (by rw [N_tG_u8]; rfl) ?_
      refine r_aload_n F rfl rfl dX9_isEntry_90 rfl ?_
      refine r_getR F f_X9_32 (hM.1) rfl dX9_isEntry_91 rfl ?_
      refine r_iload_n F rfl rfl dX9_isEntry_94 rfl ?_
      refine r_iconst F dX9_isEntry_95 rfl ?_
      refine r_iadd F dX9_isEntry_96 rfl ?_
      refine r_iald F (ja_LM_8 hM) (by omega) (by omega) (by decide) dX9_isEntry_97 rfl ?_
      refine r_eqz (z := (N_nm (G (m + 5)) (G m 5) 4 (p + 1) (-1)).1) (by rw [ja_rw_n (by omega), N_tG_8, N_et, ja_rs_n (by omega), ja_rs_s]) ?_
      refine r_if_ge F (tgt := 103) ⟨by omega, by omega⟩ dX9_isEntry_98 rfl (by decide) (fun h_98 => ?_) (fun h_98 => ?_)
      ·
        have he1 : (N_en (G (m + 5)) (G m 5) p tl T) = N_e1 (G (m + 5)) (G m 5) (N_nm (G (m + 5)) (G m 5) 4 (p + 1) (-1)).2 tl (N_e0 (N_he (G (m + 5)) (G m 5) p)) (N_et T tl (N_e0 (N_he (G (m + 5)) (G m 5) p)) (N_nm (G (m + 5)) (G m 5) 4 (p + 1) (-1)).1) := by rw [N_en, if_pos hc3, if_neg (by omega)]
        have hh := @N_he_in (G (m + 5)) (G m 5) (N_nm (G (m + 5)) (G m 5) 4 (p + 1) (-1)).2 hch
        refine r_aload_n F rfl rfl dX9_isEntry_103 rfl ?_
        refine r_getR F f_X9_32 (hM.1) rfl dX9_isEntry_104 rfl ?_
        refine r_iload_n F rfl rfl dX9_isEntry_107 rfl ?_
        refine r_iald F (ja_LM_8 hM) (by omega) (by omega) (by decide) dX9_isEntry_108 rfl ?_
        refine r_eqz (z := (N_e0 (N_he (G (m + 5)) (G m 5) p))) (by rw [ja_rw_n (by omega), N_tG_8, N_et, ja_rs_n (by omega), ja_rs_n (by omega), ja_rs_s]) ?_
        refine r_if_le F (tgt := 135) ⟨by omega, by omega⟩ dX9_isEntry_109 rfl (by decide) (fun h_109 => ?_) (fun h_109 => ?_)
        ·
          exact J135 (N_nm (G (m + 5)) (G m 5) 4 (p + 1) (-1)).2 (N_et T tl (N_e0 (N_he (G (m + 5)) (G m 5) p)) (N_nm (G (m + 5)) (G m 5) 4 (p + 1) (-1)).1) (by omega) a2.2 (by rw [N_et, ja_rs_s]; omega) (by rw [he1, N_e1, if_pos (by omega)])
        ·
          refine r_aload_n F rfl rfl dX9_isEntry_112 rfl ?_
          refine r_bipush F (by decide) dX9_isEntry_113 rfl ?_
          refine r_callV F GC (c_X9_takes_ _ _ _ _ hM hTO ⟨by omega, by omega⟩ ⟨by omega, by omega⟩) v_X9_166 rfl (hM.1) rfl (by decide) (by decide) (Nat.le_of_ble_eq_true rfl) rfl dX9_isEntry_115 rfl (fun v lay' mem' n' hp => ?_)
          obtain ⟨q1, q2, q3, q4⟩ := hp
          subst q1; subst q2; subst q3; subst q4
          refine r_if_ne F (tgt := 123) ja_b_in dX9_isEntry_118 rfl (by decide) (fun h_118 => ?_) (fun h_118 => ?_)
          ·
            have b_118 : ((N_he (G (m + 5)) (G m 5) (N_nm (G (m + 5)) (G m 5) 4 (p + 1) (-1)).2) = 46) := ja_b_1 h_118
            have hlt2 := N_he_lt (f := (G (m + 5))) (ln := (G m 5)) (p := (N_nm (G (m + 5)) (G m 5) 4 (p + 1) (-1)).2) (by omega)
            have hb1 : ja_b ((N_he (G (m + 5)) (G m 5) (N_nm (G (m + 5)) (G m 5) 4 (p + 1) (-1)).2) = 46) = 1 := if_pos b_118
            rw [hb1]
            obtain ⟨c1, c2, c3⟩ := @N_n4 (G (m + 5)) (G m 5) ((N_nm (G (m + 5)) (G m 5) 4 (p + 1) (-1)).2 + 1) (by omega)
            refine r_aload_n F rfl rfl dX9_isEntry_123 rfl ?_
            refine r_getR F f_X9_32 (hM.1) rfl dX9_isEntry_124 rfl ?_
            refine r_iload_n F rfl rfl dX9_isEntry_127 rfl ?_
            refine r_iconst F dX9_isEntry_128 rfl ?_
            refine r_iadd F dX9_isEntry_129 rfl ?_
            refine r_aload_n F rfl rfl dX9_isEntry_130 rfl ?_
            refine r_callV F GC (c_X9_number _ _ _ _ hM hTO ⟨by omega, by omega⟩ (by omega)) v_X9_163 rfl (hM.1) rfl (by decide) (by decide) (Nat.le_of_ble_eq_true rfl) rfl dX9_isEntry_131 rfl (fun v lay' mem' n' hp => ?_)
            obtain ⟨q1, q2, q3, q4⟩ := hp
            subst q1; subst q2; subst q3; subst q4
            refine r_iast F (ja_LM_8 hM) (by omega) (by omega) (by decide) dX9_isEntry_134 rfl ?_
            refine r_mem (mem' := ja_rw (ja_up (N_tG G m (N_nm (G (m + 5)) (G m 5) 4 ((N_nm (G (m + 5)) (G m 5) 4 (p + 1) (-1)).2 + 1) (-1)).2 tl (N_et T tl (N_e0 (N_he (G (m + 5)) (G m 5) p)) (N_nm (G (m + 5)) (G m 5) 4 (p + 1) (-1)).1)) (m + 8) (Int.toNat ((4 * tl) + 2)) (N_nm (G (m + 5)) (G m 5) 4 ((N_nm (G (m + 5)) (G m 5) 4 (p + 1) (-1)).2 + 1) (-1)).1) (m + 1) v) (ja_up_rw (by omega)) ?_
            rw [N_tG_u8]
            exact J135 (N_nm (G (m + 5)) (G m 5) 4 ((N_nm (G (m + 5)) (G m 5) 4 (p + 1) (-1)).2 + 1) (-1)).2 (ja_rs (N_et T tl (N_e0 (N_he (G (m + 5)) (G m 5) p)) (N_nm (G (m + 5)) (G m 5) 4 (p + 1) (-1)).1) (Int.toNat (4 * tl + 2)) (N_nm (G (m + 5)) (G m 5) 4 ((N_nm (G (m + 5)) (G m 5) 4 (p + 1) (-1)).2 + 1) (-1)).1) (by omega) c2.2 (by rw [ja_rs_s]; omega) (by rw [he1, N_e1, if_neg (by omega), if_pos b_118])
          ·
            have b_118 : ¬ ((N_he (G (m + 5)) (G m 5) (N_nm (G (m + 5)) (G m 5) 4 (p + 1) (-1)).2) = 46) := ja_b_0.mp h_118
            have he2 : (N_en (G (m + 5)) (G m 5) p tl T) = (0, (N_nm (G (m + 5)) (G m 5) 4 (p + 1) (-1)).2, tl, (N_et T tl (N_e0 (N_he (G (m + 5)) (G m 5) p)) (N_nm (G (m + 5)) (G m 5) 4 (p + 1) (-1)).1)) := by rw [he1, N_e1, if_neg (by omega), if_neg b_118]
            have hb0 : ja_b ((N_he (G (m + 5)) (G m 5) (N_nm (G (m + 5)) (G m 5) 4 (p + 1) (-1)).2) = 46) = 0 := ja_b_0.mpr b_118
            refine r_iconst F dX9_isEntry_121 rfl ?_
            exact r_zret F Rt (by omega) dX9_isEntry_122 (by decide) ⟨by rw [he2], rfl, by rw [he2, hb0, Int.add_zero], rfl⟩
      ·
        have he1 : (N_en (G (m + 5)) (G m 5) p tl T) = (0, (N_nm (G (m + 5)) (G m 5) 4 (p + 1) (-1)).2, tl, (N_et T tl (N_e0 (N_he (G (m + 5)) (G m 5) p)) (N_nm (G (m + 5)) (G m 5) 4 (p + 1) (-1)).1)) := by rw [N_en, if_pos hc3, if_pos (by omega)]
        refine r_iconst F dX9_isEntry_101 rfl ?_
        exact r_zret F Rt (by omega) dX9_isEntry_102 (by decide) ⟨by rw [he1], rfl, by rw [he1], rfl⟩
    refine r_mem (mem' := ja_rw (N_tG G m p tl (ja_rs T (Int.toNat (4 * tl)) (N_e0 (N_he (G (m + 5)) (G m 5) p)))) (m + 1) v) (by rw [N_tG_u8]) ?_
    refine r_iload_n F rfl rfl dX9_isEntry_39 rfl ?_
    refine r_bipush F (by decide) dX9_isEntry_40 rfl ?_
    refine r_icmp_eq F (tgt := 59) ⟨by omega, by omega⟩ ⟨by omega, by omega⟩ dX9_isEntry_42 rfl (by decide) (fun h_42 => ?_) (fun h_42 => ?_)
    ·
      exact J59 (by omega)
    ·
      refine r_iload_n F rfl rfl dX9_isEntry_45 rfl ?_
      refine r_bipush F (by decide) dX9_isEntry_46 rfl ?_
      refine r_icmp_eq F (tgt := 59) ⟨by omega, by omega⟩ ⟨by omega, by omega⟩ dX9_isEntry_48 rfl (by decide) (fun h_48 => ?_) (fun h_48 => ?_)
      ·
        exact J59 (by omega)
      ·
        refine r_iload_n F rfl rfl dX9_isEntry_51 rfl ?_
        refine r_bipush F (by decide) dX9_isEntry_52 rfl ?_
        refine r_icmp_eq F (tgt := 59) ⟨by omega, by omega⟩ ⟨by omega, by omega⟩ dX9_isEntry_54 rfl (by decide) (fun h_54 => ?_) (fun h_54 => ?_)
        ·
          exact J59 (by omega)
        ·
          refine r_iconst F dX9_isEntry_57 rfl ?_
          exact r_zret F Rt (by omega) dX9_isEntry_58 (by decide) ⟨by rw [N_en, if_neg (by omega)], rfl, by rw [N_en, if_neg (by omega)], rfl⟩
  refine r_iload_n F rfl rfl dX9_isEntry_17 rfl ?_
  refine r_bipush F (by decide) dX9_isEntry_18 rfl ?_
  refine r_icmp_ne F (tgt := 27) ⟨by omega, by omega⟩ ⟨by omega, by omega⟩ dX9_isEntry_20 rfl (by decide) (fun h_20 => ?_) (fun h_20 => ?_)
  ·
    refine r_iload_n F rfl rfl dX9_isEntry_27 rfl ?_
    refine r_bipush F (by decide) dX9_isEntry_28 rfl ?_
    refine r_icmp_ne F (tgt := 37) ⟨by omega, by omega⟩ ⟨by omega, by omega⟩ dX9_isEntry_30 rfl (by decide) (fun h_30 => ?_) (fun h_30 => ?_)
    ·
      refine r_iconst F dX9_isEntry_37 rfl ?_
      refine r_eqz (z := N_e0 (N_he (G (m + 5)) (G m 5) p)) (by unfold N_e0; first | rw [if_pos (by omega)] | rw [if_neg (by omega), if_pos (by omega)] | rw [if_neg (by omega), if_neg (by omega)]) ?_
      exact J38
    ·
      refine r_iconst F dX9_isEntry_33 rfl ?_
      refine r_goto F (tgt := 38) dX9_isEntry_34 (by decide) ?_
      refine r_eqz (z := N_e0 (N_he (G (m + 5)) (G m 5) p)) (by unfold N_e0; first | rw [if_pos (by omega)] | rw [if_neg (by omega), if_pos (by omega)] | rw [if_neg (by omega), if_neg (by omega)]) ?_
      exact J38
  ·
    refine r_iconst F dX9_isEntry_23 rfl ?_
    refine r_goto F (tgt := 38) dX9_isEntry_24 (by decide) ?_
    refine r_eqz (z := N_e0 (N_he (G (m + 5)) (G m 5) p)) (by unfold N_e0; first | rw [if_pos (by omega)] | rw [if_neg (by omega), if_pos (by omega)] | rw [if_neg (by omega), if_neg (by omega)]) ?_
    exact J38
abbrev rm_X9_isText : Room := { frames := 3, cells := 0, slots := 0, locals := 66 }
set_option maxRecDepth 100000 in
set_option maxHeartbeats 800000 in
theorem c_X9_isText (l : Launch) (D : va_G) (cA : Nat → ClassId) (B : Nat) {lay : ja_Y} {n : Nat} {m : Nat} {G : ja_M} {v : Nat → Int} (hM : ja_LM lay m) {p tl : Int} {T : Nat → Int} (hTO : N_TO G m) (hT : (N_rdt G m) = N_tx (G (m + 5)) (G m 5) 25 0 0 T) : ja_Mt l D cA B yX9_isText cX9_isText 2 (some .boolean) rm_X9_isText [.ref m] lay (ja_rw (N_tG G m p tl T) (m + 1) v) n (ja_rd lay (ja_rw (N_tG G m (N_rdt G m).2.1 (N_rdt G m).2.2.1 (N_rdt G m).2.2.2) (m + 1) v) n (some (.int (ja_I (N_rdt G m).1)))) := by
  refine ja_enter [some (.ref m), none] (by decide) (Nat.le_of_ble_eq_true rfl) (fun q hq => hq) (fun C F Rt GC hnm => ?_)
  obtain ⟨h5, hch⟩ := id hTO
  refine r_aload_n F rfl rfl dX9_isText_0 rfl ?_
  refine r_iconst F dX9_isText_1 rfl ?_
  refine r_putI F f_X9_154 (hM.1) rfl dX9_isText_2 rfl ?_
  refine r_mem (mem' := ja_rw (ja_up (N_tG G m p tl T) m 10 0) (m + 1) v) (ja_up_rw (by omega)) ?_
  refine r_mem (mem' := ja_rw (N_tG G m 0 tl T) (m + 1) v) (by rw [N_tG_u10]) ?_
  refine r_aload_n F rfl rfl dX9_isText_5 rfl ?_
  refine r_iconst F dX9_isText_6 rfl ?_
  refine r_putI F f_X9_160 (hM.1) rfl dX9_isText_7 rfl ?_
  refine r_mem (mem' := ja_rw (ja_up (N_tG G m 0 tl T) m 9 0) (m + 1) v) (ja_up_rw (by omega)) ?_
  refine r_mem (mem' := ja_rw (N_tG G m 0 0 T) (m + 1) v) (by rw [N_tG_u9]) ?_
  refine r_iconst F dX9_isText_10 rfl ?_
  refine r_ist1 F (by decide) rfl dX9_isText_11 rfl ?_
  have loop : ∀ (d : Nat) (q ul : Int) (T1 : Nat → Int), 125 ≤ q + 5 * d → (0 ≤ ul ∧ 5 * ul ≤ q) → (0 ≤ q ∧ q ≤ (G m 5)) → N_tx (G (m + 5)) (G m 5) d q ul T1 = (N_rdt G m) → ja_W C 0 0 lay (ja_rw (N_tG G m q ul T1) (m + 1) v) n 12 [some (.ref m), some (.int (ja_I 1))] [] := by
    intro d
    induction d with
    | zero =>
      intro q ul T1 h125
      intros
      exfalso
      omega
    | succ d ih =>
      intro q ul T1 h125 hul hq hl
      obtain ⟨e1, e2, e3, e4, e5⟩ := @N_en_p (G (m + 5)) (G m 5) q ul T1 hul.1 hq.2
      refine r_iload_n F rfl rfl dX9_isText_12 rfl ?_
      refine r_if_eq F (tgt := 35) ⟨by omega, by omega⟩ dX9_isText_13 rfl (by decide) (fun h_13 => ?_) (fun h_13 => ?_)
      ·
        exfalso; omega
      ·
        refine r_aload_n F rfl rfl dX9_isText_16 rfl ?_
        refine r_getI F f_X9_154 (hM.1) rfl dX9_isText_17 rfl ?_
        refine r_eqz (z := q) (by rw [ja_rw_n (by omega), N_tG_10]) ?_
        refine r_aload_n F rfl rfl dX9_isText_20 rfl ?_
        refine r_getI F f_X9_150 (hM.1) rfl dX9_isText_21 rfl ?_
        refine r_eqz (z := G m 5) (by rw [ja_rw_n (by omega), N_tG_j (by omega) (by omega)]) ?_
        refine r_icmp_ge F (tgt := 35) ⟨by omega, by omega⟩ ⟨by omega, by omega⟩ dX9_isText_24 rfl (by decide) (fun h_24 => ?_) (fun h_24 => ?_)
        ·
          refine r_iload_n F rfl rfl dX9_isText_35 rfl ?_
          exact r_zret F Rt (by omega) dX9_isText_36 (by decide) ⟨by rw [← hl]; simp only [N_tx]; rw [if_neg (by omega)], rfl, by rw [← hl]; simp only [N_tx]; rw [if_neg (by omega)], rfl⟩
        ·
          refine r_aload_n F rfl rfl dX9_isText_27 rfl ?_
          refine r_callV F GC (c_X9_isEntry _ _ _ _ hM hTO hq hul) v_X9_168 rfl (hM.1) rfl (by decide) (by decide) (Nat.le_of_ble_eq_true rfl) rfl dX9_isText_28 rfl (fun v lay' mem' n' hp => ?_)
          obtain ⟨q1, q2, q3, q4⟩ := hp
          subst q1; subst q2; subst q3; subst q4
          rcases e1 with he | he
          · refine r_eqz (z := 0) he ?_
            refine r_ist1 F (by decide) rfl dX9_isText_31 rfl ?_
            refine r_goto F (tgt := 12) dX9_isText_32 (by decide) ?_
            refine r_iload_n F rfl rfl dX9_isText_12 rfl ?_
            refine r_if_eq F (tgt := 35) ⟨by omega, by omega⟩ dX9_isText_13 rfl (by decide) (fun h_13 => ?_) (fun h_13 => ?_)
            ·
              refine r_iload_n F rfl rfl dX9_isText_35 rfl ?_
              exact r_zret F Rt (by omega) dX9_isText_36 (by decide) ⟨by rw [← hl]; simp only [N_tx]; rw [if_pos (by omega), if_pos he]; exact congrArg (fun z => some (Value.int (ja_I z))) he, rfl, by rw [← hl]; simp only [N_tx]; rw [if_pos (by omega), if_pos he], rfl⟩
            ·
              exfalso; omega
          · refine r_eqz (z := 1) he ?_
            obtain ⟨g1, g2, g3⟩ := e3 he
            refine r_ist1 F (by decide) rfl dX9_isText_31 rfl ?_
            refine r_goto F (tgt := 12) dX9_isText_32 (by decide) ?_
            exact ih _ _ _ (by omega) ⟨by omega, by omega⟩ ⟨by omega, e2.2⟩ (by rw [← hl]; simp only [N_tx]; rw [if_pos (by omega), if_neg (by omega)])
  exact loop 25 0 0 T (by omega) ⟨by omega, by omega⟩ ⟨by omega, h5.1⟩ hT.symm
abbrev rm_X9_faultPosition : Room := { frames := 4, cells := 0, slots := 0, locals := 87 }
set_option maxRecDepth 100000 in
set_option maxHeartbeats 800000 in
theorem c_X9_faultPosition (l : Launch) (D : va_G) (cA : Nat → ClassId) (B : Nat) {lay : ja_Y} {n : Nat} {m : Nat} {G : ja_M} {v : Nat → Int} (hM : ja_LM lay m) (hTO : N_TO G m)  : ja_Mt l D cA B yX9_faultPosition cX9_faultPosition 1 (some .int) rm_X9_faultPosition [.ref m] lay (ja_rw G (m + 1) v) n (ja_rd lay (ja_rw (N_tG G m (N_rdt G m).2.1 (N_rdt G m).2.2.1 (N_rdt G m).2.2.2) (m + 1) v) n (some (.int (ja_I (if (N_rdt G m).1 = 0 then (N_rdt G m).2.1 else -1004))))) := by
  refine ja_enter [some (.ref m)] (by decide) (Nat.le_of_ble_eq_true rfl) (fun q hq => hq) (fun C F Rt GC hnm => ?_)
  obtain ⟨h5, hch⟩ := id hTO
  obtain ⟨x1, x2, x3, x4⟩ := @N_tx_p (G (m + 5)) (G m 5) 25 0 0 (G (m + 8)) (by omega) (by omega) h5.1 (by omega) (fun i i0 i1 => by omega)
  rw [show N_tx (G (m + 5)) (G m 5) 25 0 0 (G (m + 8)) = N_rdt G m from rfl] at x1 x2 x3 x4
  refine r_mem (mem' := ja_rw (N_tG G m (G m 10) (G m 9) (G (m + 8))) (m + 1) v) (by rw [N_tG_self]) ?_
  refine r_aload_n F rfl rfl dX9_faultPosition_0 rfl ?_
  refine r_callV F GC (c_X9_isText _ _ _ _ hM hTO rfl) v_X9_171 rfl (hM.1) rfl (by decide) (by decide) (Nat.le_of_ble_eq_true rfl) rfl dX9_faultPosition_1 rfl (fun v lay' mem' n' hp => ?_)
  obtain ⟨q1, q2, q3, q4⟩ := hp
  subst q1; subst q2; subst q3; subst q4
  refine r_if_eq F (tgt := 13) ⟨by omega, by omega⟩ dX9_faultPosition_4 rfl (by decide) (fun h_4 => ?_) (fun h_4 => ?_)
  ·
    refine r_aload_n F rfl rfl dX9_faultPosition_13 rfl ?_
    refine r_getI F f_X9_154 (hM.1) rfl dX9_faultPosition_14 rfl ?_
    refine r_eqz (z := (N_rdt G m).2.1) (by rw [ja_rw_n (by omega), N_tG_10]) ?_
    exact r_iret F Rt dX9_faultPosition_17 (by decide) ⟨by first | rw [if_pos h_4] | rw [if_neg h_4], rfl, rfl, rfl⟩
  ·
    refine r_sipush F (by decide) dX9_faultPosition_7 rfl ?_
    refine r_goto F (tgt := 17) dX9_faultPosition_10 (by decide) ?_
    exact r_iret F Rt dX9_faultPosition_17 (by decide) ⟨by first | rw [if_pos h_4] | rw [if_neg h_4], rfl, rfl, rfl⟩
abbrev rm_X9_append : Room := { frames := 1, cells := 0, slots := 0, locals := 22 }
set_option maxRecDepth 100000 in
set_option maxHeartbeats 800000 in
theorem c_X9_append (l : Launch) (D : va_G) (cA : Nat → ClassId) (B : Nat) {lay : ja_Y} {n : Nat} {m : Nat} {G : ja_M} {v : Nat → Int} (hM : ja_LM lay m) {k : Int} (hTO : N_TO G m) (hk : ja_in k) : ja_Mt l D cA B yX9_append cX9_append 2 (some .int) rm_X9_append [.ref m, .int (ja_I k)] lay (ja_rw G (m + 1) v) n (ja_rd lay (ja_rw (if 32 ≤ k ∧ k ≤ 126 ∧ ¬ G m 5 = 120 then ja_up (ja_up G (m + 5) (G m 5).toNat k) m 5 (G m 5 + 1) else G) (m + 1) v) n (some (.int (ja_I (if 32 ≤ k ∧ k ≤ 126 then (if G m 5 = 120 then -1002 else G m 5 + 1) else -1001))))) := by
  refine ja_enter [some (.ref m), some (.int (ja_I k))] (by decide) (Nat.le_of_ble_eq_true rfl) (fun q hq => hq) (fun C F Rt GC hnm => ?_)
  obtain ⟨h5, hch⟩ := id hTO
  obtain ⟨k1_, k2_⟩ := id hk
  refine r_iload_n F rfl rfl dX9_append_0 rfl ?_
  refine r_bipush F (by decide) dX9_append_1 rfl ?_
  refine r_bipush F (by decide) dX9_append_3 rfl ?_
  refine r_callS F GC (c_X9_in _ _ _ _ ⟨by omega, by omega⟩ ⟨by omega, by omega⟩ ⟨by omega, by omega⟩) s_X9_35 rfl (by decide) (by decide) (Nat.le_of_ble_eq_true rfl) rfl dX9_append_5 rfl (fun v lay' mem' n' hp => ?_)
  obtain ⟨q1, q2, q3, q4⟩ := hp
  subst q1; subst q2; subst q3; subst q4
  refine r_if_ne F (tgt := 15) ja_b_in dX9_append_8 rfl (by decide) (fun h_8 => ?_) (fun h_8 => ?_)
  ·
    have b_8 : (32 ≤ k ∧ k ≤ 126) := ja_b_1 h_8
    refine r_aload_n F rfl rfl dX9_append_15 rfl ?_
    refine r_getI F f_X9_150 (hM.1) rfl dX9_append_16 rfl ?_
    refine r_eqz (z := G m 5) (by rw [ja_rw_n (by omega)]) ?_
    refine r_bipush F (by decide) dX9_append_19 rfl ?_
    refine r_icmp_ne F (tgt := 28) ⟨by omega, by omega⟩ ⟨by omega, by omega⟩ dX9_append_21 rfl (by decide) (fun h_21 => ?_) (fun h_21 => ?_)
    ·
      refine r_aload_n F rfl rfl dX9_append_28 rfl ?_
      refine r_getR F f_X9_23 (hM.1) rfl dX9_append_29 rfl ?_
      refine r_aload_n F rfl rfl dX9_append_32 rfl ?_
      refine r_getI F f_X9_150 (hM.1) rfl dX9_append_33 rfl ?_
      refine r_eqz (z := G m 5) (by rw [ja_rw_n (by omega)]) ?_
      refine r_iload_n F rfl rfl dX9_append_36 rfl ?_
      refine r_iast F (ja_LM_5 hM) (by omega) (by omega) (by decide) dX9_append_37 rfl ?_
      refine r_mem (mem' := ja_rw (ja_up G (m + 5) (Int.toNat (G m 5)) k) (m + 1) v) (ja_up_rw (by omega)) ?_
      refine r_aload_n F rfl rfl dX9_append_38 rfl ?_
      refine r_dup F rfl dX9_append_39 rfl ?_
      refine r_getI F f_X9_150 (hM.1) rfl dX9_append_40 rfl ?_
      refine r_eqz (z := G m 5) (by rw [ja_rw_n (by omega), ja_up_a (by omega)]) ?_
      refine r_iconst F dX9_append_43 rfl ?_
      refine r_iadd F dX9_append_44 rfl ?_
      refine r_putI F f_X9_150 (hM.1) rfl dX9_append_45 rfl ?_
      refine r_mem (mem' := ja_rw (ja_up (ja_up G (m + 5) (Int.toNat (G m 5)) k) m 5 ((G m 5) + 1)) (m + 1) v) (ja_up_rw (by omega)) ?_
      refine r_aload_n F rfl rfl dX9_append_48 rfl ?_
      refine r_getI F f_X9_150 (hM.1) rfl dX9_append_49 rfl ?_
      refine r_eqz (z := G m 5 + 1) (by rw [ja_rw_n (by omega), ja_up_s]) ?_
      exact r_iret F Rt dX9_append_52 (by decide) ⟨by rw [if_pos b_8, if_neg h_21], rfl, by rw [if_pos (by omega)], rfl⟩
    ·
      refine r_sipush F (by decide) dX9_append_24 rfl ?_
      exact r_iret F Rt dX9_append_27 (by decide) ⟨by rw [if_pos b_8, if_pos h_21], rfl, by rw [if_neg (by omega)], rfl⟩
  ·
    have b_8 : ¬ (32 ≤ k ∧ k ≤ 126) := ja_b_0.mp h_8
    refine r_sipush F (by decide) dX9_append_11 rfl ?_
    exact r_iret F Rt dX9_append_14 (by decide) ⟨by rw [if_neg b_8], rfl, by rw [if_neg (by omega)], rfl⟩
abbrev rm_X9_clearText : Room := { frames := 0, cells := 0, slots := 0, locals := 0 }
set_option maxRecDepth 100000 in
set_option maxHeartbeats 800000 in
theorem c_X9_clearText (l : Launch) (D : va_G) (cA : Nat → ClassId) (B : Nat) {lay : ja_Y} {n : Nat} {m : Nat} {G : ja_M} {v : Nat → Int} (hM : ja_LM lay m) (hTO : N_TO G m)  : ja_Mt l D cA B yX9_clearText cX9_clearText 2 (some .int) rm_X9_clearText [.ref m] lay (ja_rw G (m + 1) v) n (ja_rd lay (ja_rw (ja_up G m 5 0) (m + 1) v) n (some (.int (ja_I (G m 5))))) := by
  refine ja_enter [some (.ref m), none] (by decide) (Nat.le_of_ble_eq_true rfl) (fun q hq => hq) (fun C F Rt GC hnm => ?_)
  obtain ⟨h5, hch⟩ := id hTO
  refine r_aload_n F rfl rfl dX9_clearText_0 rfl ?_
  refine r_getI F f_X9_150 (hM.1) rfl dX9_clearText_1 rfl ?_
  refine r_eqz (z := G m 5) (by rw [ja_rw_n (by omega)]) ?_
  refine r_ist1 F (by decide) rfl dX9_clearText_4 rfl ?_
  refine r_aload_n F rfl rfl dX9_clearText_5 rfl ?_
  refine r_iconst F dX9_clearText_6 rfl ?_
  refine r_putI F f_X9_150 (hM.1) rfl dX9_clearText_7 rfl ?_
  refine r_mem (mem' := ja_rw (ja_up G m 5 0) (m + 1) v) (ja_up_rw (by omega)) ?_
  refine r_iload_n F rfl rfl dX9_clearText_10 rfl ?_
  exact r_iret F Rt dX9_clearText_11 (by decide) ⟨rfl, rfl, rfl, rfl⟩
abbrev rm_X9_isArrival : Room := { frames := 2, cells := 0, slots := 0, locals := 45 }
set_option maxRecDepth 100000 in
set_option maxHeartbeats 800000 in
theorem c_X9_isArrival (l : Launch) (D : va_G) (cA : Nat → ClassId) (B : Nat) {lay : ja_Y} {n : Nat} {m : Nat} {G : ja_M} {v : Nat → Int} (hM : ja_LM lay m) {p tl i : Int} {T : Nat → Int} (hR : N_R v) (hi : 0 ≤ i ∧ i ≤ 30) (hT : N_tr T i) : ja_Mt l D cA B yX9_isArrival cX9_isArrival 3 (some .boolean) rm_X9_isArrival [.ref m, .int (ja_I (4 * i))] lay (ja_rw (N_tG G m p tl T) (m + 1) v) n (ja_rd lay (ja_rw (N_tG G m p tl T) (m + 1) v) n (some (.int (ja_I (ja_b (N_ia v T i)))))) := by
  refine ja_enter [some (.ref m), some (.int (ja_I (4 * i))), none] (by decide) (Nat.le_of_ble_eq_true rfl) (fun q hq => hq) (fun C F Rt GC hnm => ?_)
  have hC := hR.C
  have hS := hR.S
  obtain ⟨t0, ⟨t1, t1b⟩, ⟨t2, t2b⟩, ⟨t3, t3b⟩⟩ := id hT
  refine r_aload_n F rfl rfl dX9_isArrival_0 rfl ?_
  refine r_getR F f_X9_32 (hM.1) rfl dX9_isArrival_1 rfl ?_
  refine r_iload_n F rfl rfl dX9_isArrival_4 rfl ?_
  refine r_iald F (ja_LM_8 hM) (by omega) (by omega) (by decide) dX9_isArrival_5 rfl ?_
  refine r_eqz (z := (T (Int.toNat (4 * i)))) (by rw [ja_rw_n (by omega), N_tG_8]) ?_
  refine r_if_ne F (tgt := 23) ⟨by omega, by omega⟩ dX9_isArrival_6 rfl (by decide) (fun h_6 => ?_) (fun h_6 => ?_)
  ·
    have hz0 : ¬ T (Int.toNat (4 * i)) = 0 := h_6
    refine r_aload_n F rfl rfl dX9_isArrival_23 rfl ?_
    have J39 : ja_W C 0 0 lay (ja_rw (N_tG G m p tl T) (m + 1) v) n 39 [some (.ref (m)), some (.int (ja_I ((4 * i)))), none] [.int (ja_I (if T (Int.toNat (4 * i)) = 1 then 1 else 0)), .ref (m)] := by
      have hjb : 0 ≤ (if T (Int.toNat (4 * i)) = 1 then (1 : Int) else 0) ∧ (if T (Int.toNat (4 * i)) = 1 then (1 : Int) else 0) ≤ 1 := by split <;> omega
      refine r_aload_n F rfl rfl dX9_isArrival_39 rfl ?_
      refine r_getR F f_X9_32 (hM.1) rfl dX9_isArrival_40 rfl ?_
      refine r_iload_n F rfl rfl dX9_isArrival_43 rfl ?_
      refine r_iconst F dX9_isArrival_44 rfl ?_
      refine r_iadd F dX9_isArrival_45 rfl ?_
      refine r_iald F (ja_LM_8 hM) (by omega) (by omega) (by decide) dX9_isArrival_46 rfl ?_
      refine r_eqz (z := (T (Int.toNat (4 * i + 1)))) (by rw [ja_rw_n (by omega), N_tG_8]) ?_
      refine r_aload_n F rfl rfl dX9_isArrival_47 rfl ?_
      refine r_getR F f_X9_32 (hM.1) rfl dX9_isArrival_48 rfl ?_
      refine r_iload_n F rfl rfl dX9_isArrival_51 rfl ?_
      refine r_iconst F dX9_isArrival_52 rfl ?_
      refine r_iadd F dX9_isArrival_53 rfl ?_
      refine r_iald F (ja_LM_8 hM) (by omega) (by omega) (by decide) dX9_isArrival_54 rfl ?_
      refine r_eqz (z := (T (Int.toNat (4 * i + 2)))) (by rw [ja_rw_n (by omega), N_tG_8]) ?_
      refine r_callV F GC (c_X9_isPacket _ _ _ _ hM hS hjb ⟨by omega, by omega⟩ ⟨by omega, by omega⟩) v_X9_91 rfl (hM.1) rfl (by decide) (by decide) (Nat.le_of_ble_eq_true rfl) rfl dX9_isArrival_55 rfl (fun v lay' mem' n' hp => ?_)
      obtain ⟨q1, q2, q3, q4⟩ := hp
      subst q1; subst q2; subst q3; subst q4
      refine r_ist2 F (by decide) rfl dX9_isArrival_58 rfl ?_
      refine r_iload_n F rfl rfl dX9_isArrival_59 rfl ?_
      refine r_if_eq F (tgt := 85) ja_b_in dX9_isArrival_60 rfl (by decide) (fun h_60 => ?_) (fun h_60 => ?_)
      ·
        have b_60 : ¬ (N_hP v (if T (Int.toNat (4 * i)) = 1 then 1 else 0) (T (Int.toNat (4 * i + 1))) (T (Int.toNat (4 * i + 2)))) := ja_b_0.mp h_60
        refine r_iconst F dX9_isArrival_85 rfl ?_
        exact r_zret F Rt (by omega) dX9_isArrival_86 (by decide) ⟨by first | rw [ja_b_0.mpr (fun q : N_ia v T i => by have q2 := q.2; omega)] | rw [ja_b_0.mpr (fun q : N_ia v T i => b_60 (by have q1 := q.1; rw [if_pos hz0] at q1; exact q1))] | rw [ja_b_0.mpr (fun q : N_ia v T i => b_60 (by have q1 := q.1; rw [if_neg hz0] at q1; exact q1))] | (have hyes : N_ia v T i := ⟨by rw [if_pos hz0]; exact b_60, by omega⟩; unfold ja_b; rw [if_pos hyes]) | (have hyes : N_ia v T i := ⟨by rw [if_neg hz0]; exact b_60, by omega⟩; unfold ja_b; rw [if_pos hyes]), rfl, rfl, rfl⟩
      ·
        have b_60 : (N_hP v (if T (Int.toNat (4 * i)) = 1 then 1 else 0) (T (Int.toNat (4 * i + 1))) (T (Int.toNat (4 * i + 2)))) := ja_b_1 h_60
        refine r_aload_n F rfl rfl dX9_isArrival_63 rfl ?_
        refine r_getR F f_X9_32 (hM.1) rfl dX9_isArrival_64 rfl ?_
        refine r_iload_n F rfl rfl dX9_isArrival_67 rfl ?_
        refine r_iconst F dX9_isArrival_68 rfl ?_
        refine r_iadd F dX9_isArrival_69 rfl ?_
        refine r_iald F (ja_LM_8 hM) (by omega) (by omega) (by decide) dX9_isArrival_70 rfl ?_
        refine r_eqz (z := (T (Int.toNat (4 * i + 3)))) (by rw [ja_rw_n (by omega), N_tG_8]) ?_
        refine r_aload_n F rfl rfl dX9_isArrival_71 rfl ?_
        refine r_getR F f_X9_7 (hM.1) rfl dX9_isArrival_72 rfl ?_
        refine r_bipush F (by decide) dX9_isArrival_75 rfl ?_
        refine r_iald F (ja_LM_1 hM) (by omega) (by omega) (by decide) dX9_isArrival_77 rfl ?_
        refine r_eqz (z := (v 9)) (by rw [ja_rw_s, show Int.toNat 9 = 9 from rfl]) ?_
        refine r_icmp_le F (tgt := 85) ⟨by omega, by omega⟩ ⟨by omega, by omega⟩ dX9_isArrival_78 rfl (by decide) (fun h_78 => ?_) (fun h_78 => ?_)
        ·
          refine r_iconst F dX9_isArrival_85 rfl ?_
          exact r_zret F Rt (by omega) dX9_isArrival_86 (by decide) ⟨by first | rw [ja_b_0.mpr (fun q : N_ia v T i => by have q2 := q.2; omega)] | rw [ja_b_0.mpr (fun q : N_ia v T i => b_60 (by have q1 := q.1; rw [if_pos hz0] at q1; exact q1))] | rw [ja_b_0.mpr (fun q : N_ia v T i => b_60 (by have q1 := q.1; rw [if_neg hz0] at q1; exact q1))] | (have hyes : N_ia v T i := ⟨by rw [if_pos hz0]; exact b_60, by omega⟩; unfold ja_b; rw [if_pos hyes]) | (have hyes : N_ia v T i := ⟨by rw [if_neg hz0]; exact b_60, by omega⟩; unfold ja_b; rw [if_pos hyes]), rfl, rfl, rfl⟩
        ·
          refine r_iconst F dX9_isArrival_81 rfl ?_
          refine r_goto F (tgt := 86) dX9_isArrival_82 (by decide) ?_
          exact r_zret F Rt (by omega) dX9_isArrival_86 (by decide) ⟨by first | rw [ja_b_0.mpr (fun q : N_ia v T i => by have q2 := q.2; omega)] | rw [ja_b_0.mpr (fun q : N_ia v T i => b_60 (by have q1 := q.1; rw [if_pos hz0] at q1; exact q1))] | rw [ja_b_0.mpr (fun q : N_ia v T i => b_60 (by have q1 := q.1; rw [if_neg hz0] at q1; exact q1))] | (have hyes : N_ia v T i := ⟨by rw [if_pos hz0]; exact b_60, by omega⟩; unfold ja_b; rw [if_pos hyes]) | (have hyes : N_ia v T i := ⟨by rw [if_neg hz0]; exact b_60, by omega⟩; unfold ja_b; rw [if_pos hyes]), rfl, rfl, rfl⟩
    refine r_aload_n F rfl rfl dX9_isArrival_24 rfl ?_
    refine r_getR F f_X9_32 (hM.1) rfl dX9_isArrival_25 rfl ?_
    refine r_iload_n F rfl rfl dX9_isArrival_28 rfl ?_
    refine r_iald F (ja_LM_8 hM) (by omega) (by omega) (by decide) dX9_isArrival_29 rfl ?_
    refine r_eqz (z := (T (Int.toNat (4 * i)))) (by rw [ja_rw_n (by omega), N_tG_8]) ?_
    refine r_iconst F dX9_isArrival_30 rfl ?_
    refine r_icmp_ne F (tgt := 38) ⟨by omega, by omega⟩ ⟨by omega, by omega⟩ dX9_isArrival_31 rfl (by decide) (fun h_31 => ?_) (fun h_31 => ?_)
    ·
      refine r_iconst F dX9_isArrival_38 rfl ?_
      refine r_eqz (z := if T (Int.toNat (4 * i)) = 1 then 1 else 0) (by first | rw [if_pos (by omega)] | rw [if_neg (by omega)]) ?_
      exact J39
    ·
      refine r_iconst F dX9_isArrival_34 rfl ?_
      refine r_goto F (tgt := 39) dX9_isArrival_35 (by decide) ?_
      refine r_eqz (z := if T (Int.toNat (4 * i)) = 1 then 1 else 0) (by first | rw [if_pos (by omega)] | rw [if_neg (by omega)]) ?_
      exact J39
  ·
    have hz0 : T (Int.toNat (4 * i)) = 0 := h_6
    refine r_aload_n F rfl rfl dX9_isArrival_9 rfl ?_
    refine r_getR F f_X9_32 (hM.1) rfl dX9_isArrival_10 rfl ?_
    refine r_iload_n F rfl rfl dX9_isArrival_13 rfl ?_
    refine r_iconst F dX9_isArrival_14 rfl ?_
    refine r_iadd F dX9_isArrival_15 rfl ?_
    refine r_iald F (ja_LM_8 hM) (by omega) (by omega) (by decide) dX9_isArrival_16 rfl ?_
    refine r_eqz (z := (T (Int.toNat (4 * i + 1)))) (by rw [ja_rw_n (by omega), N_tG_8]) ?_
    refine r_callS F GC (c_X9_isFrame _ _ _ _ ⟨by omega, by omega⟩) s_X9_84 rfl (by decide) (by decide) (Nat.le_of_ble_eq_true rfl) rfl dX9_isArrival_17 rfl (fun v lay' mem' n' hp => ?_)
    obtain ⟨q1, q2, q3, q4⟩ := hp
    subst q1; subst q2; subst q3; subst q4
    refine r_goto F (tgt := 58) dX9_isArrival_20 (by decide) ?_
    refine r_ist2 F (by decide) rfl dX9_isArrival_58 rfl ?_
    refine r_iload_n F rfl rfl dX9_isArrival_59 rfl ?_
    refine r_if_eq F (tgt := 85) ja_b_in dX9_isArrival_60 rfl (by decide) (fun h_60 => ?_) (fun h_60 => ?_)
    ·
      have b_60 : ¬ (N_isF (T (Int.toNat (4 * i + 1)))) := ja_b_0.mp h_60
      refine r_iconst F dX9_isArrival_85 rfl ?_
      exact r_zret F Rt (by omega) dX9_isArrival_86 (by decide) ⟨by first | rw [ja_b_0.mpr (fun q : N_ia v T i => by have q2 := q.2; omega)] | rw [ja_b_0.mpr (fun q : N_ia v T i => b_60 (by have q1 := q.1; rw [if_pos hz0] at q1; exact q1))] | rw [ja_b_0.mpr (fun q : N_ia v T i => b_60 (by have q1 := q.1; rw [if_neg hz0] at q1; exact q1))] | (have hyes : N_ia v T i := ⟨by rw [if_pos hz0]; exact b_60, by omega⟩; unfold ja_b; rw [if_pos hyes]) | (have hyes : N_ia v T i := ⟨by rw [if_neg hz0]; exact b_60, by omega⟩; unfold ja_b; rw [if_pos hyes]), rfl, rfl, rfl⟩
    ·
      have b_60 : (N_isF (T (Int.toNat (4 * i + 1)))) := ja_b_1 h_60
      refine r_aload_n F rfl rfl dX9_isArrival_63 rfl ?_
      refine r_getR F f_X9_32 (hM.1) rfl dX9_isArrival_64 rfl ?_
      refine r_iload_n F rfl rfl dX9_isArrival_67 rfl ?_
      refine r_iconst F dX9_isArrival_68 rfl ?_
      refine r_iadd F dX9_isArrival_69 rfl ?_
      refine r_iald F (ja_LM_8 hM) (by omega) (by omega) (by decide) dX9_isArrival_70 rfl ?_
      refine r_eqz (z := (T (Int.toNat (4 * i + 3)))) (by rw [ja_rw_n (by omega), N_tG_8]) ?_
      refine r_aload_n F rfl rfl dX9_isArrival_71 rfl ?_
      refine r_getR F f_X9_7 (hM.1) rfl dX9_isArrival_72 rfl ?_
      refine r_bipush F (by decide) dX9_isArrival_75 rfl ?_
      refine r_iald F (ja_LM_1 hM) (by omega) (by omega) (by decide) dX9_isArrival_77 rfl ?_
      refine r_eqz (z := (v 9)) (by rw [ja_rw_s, show Int.toNat 9 = 9 from rfl]) ?_
      refine r_icmp_le F (tgt := 85) ⟨by omega, by omega⟩ ⟨by omega, by omega⟩ dX9_isArrival_78 rfl (by decide) (fun h_78 => ?_) (fun h_78 => ?_)
      ·
        refine r_iconst F dX9_isArrival_85 rfl ?_
        exact r_zret F Rt (by omega) dX9_isArrival_86 (by decide) ⟨by first | rw [ja_b_0.mpr (fun q : N_ia v T i => by have q2 := q.2; omega)] | rw [ja_b_0.mpr (fun q : N_ia v T i => b_60 (by have q1 := q.1; rw [if_pos hz0] at q1; exact q1))] | rw [ja_b_0.mpr (fun q : N_ia v T i => b_60 (by have q1 := q.1; rw [if_neg hz0] at q1; exact q1))] | (have hyes : N_ia v T i := ⟨by rw [if_pos hz0]; exact b_60, by omega⟩; unfold ja_b; rw [if_pos hyes]) | (have hyes : N_ia v T i := ⟨by rw [if_neg hz0]; exact b_60, by omega⟩; unfold ja_b; rw [if_pos hyes]), rfl, rfl, rfl⟩
      ·
        refine r_iconst F dX9_isArrival_81 rfl ?_
        refine r_goto F (tgt := 86) dX9_isArrival_82 (by decide) ?_
        exact r_zret F Rt (by omega) dX9_isArrival_86 (by decide) ⟨by first | rw [ja_b_0.mpr (fun q : N_ia v T i => by have q2 := q.2; omega)] | rw [ja_b_0.mpr (fun q : N_ia v T i => b_60 (by have q1 := q.1; rw [if_pos hz0] at q1; exact q1))] | rw [ja_b_0.mpr (fun q : N_ia v T i => b_60 (by have q1 := q.1; rw [if_neg hz0] at q1; exact q1))] | (have hyes : N_ia v T i := ⟨by rw [if_pos hz0]; exact b_60, by omega⟩; unfold ja_b; rw [if_pos hyes]) | (have hyes : N_ia v T i := ⟨by rw [if_neg hz0]; exact b_60, by omega⟩; unfold ja_b; rw [if_pos hyes]), rfl, rfl, rfl⟩
abbrev rm_X9_schedule : Room := { frames := 4, cells := 0, slots := 0, locals := 87 }
set_option maxRecDepth 100000 in
set_option maxHeartbeats 800000 in
theorem c_X9_schedule (l : Launch) (D : va_G) (cA : Nat → ClassId) (B : Nat) {lay : ja_Y} {n : Nat} {m : Nat} {G : ja_M} {v : Nat → Int} (hM : ja_LM lay m) (hR : N_R v) (hTO : N_TO G m)  : ja_Mt l D cA B yX9_schedule cX9_schedule 2 (some .int) rm_X9_schedule [.ref m] lay (ja_rw G (m + 1) v) n (ja_rd lay (ja_rw (N_tG G m (N_rdt G m).2.1 (N_rdt G m).2.2.1 (N_rdt G m).2.2.2) (m + 1) (N_sw v (N_rdt G m))) n (some (.int (ja_I (N_sr v (N_rdt G m)))))) := by
  refine ja_enter [some (.ref m), none] (by decide) (Nat.le_of_ble_eq_true rfl) (fun q hq => hq) (fun C F Rt GC hnm => ?_)
  have hC := hR.C
  have hS := hR.S
  obtain ⟨h5, hch⟩ := id hTO
  obtain ⟨x1, x2, x3, x4⟩ := @N_tx_p (G (m + 5)) (G m 5) 25 0 0 (G (m + 8)) (by omega) (by omega) h5.1 (by omega) (fun i i0 i1 => by omega)
  rw [show N_tx (G (m + 5)) (G m 5) 25 0 0 (G (m + 8)) = N_rdt G m from rfl] at x1 x2 x3 x4
  have hC25 : 0 ≤ v 25 := by omega
  refine r_mem (mem' := ja_rw (N_tG G m (G m 10) (G m 9) (G (m + 8))) (m + 1) v) (by rw [N_tG_self]) ?_
  refine r_aload_n F rfl rfl dX9_schedule_0 rfl ?_
  refine r_callV F GC (c_X9_isText _ _ _ _ hM hTO rfl) v_X9_171 rfl (hM.1) rfl (by decide) (by decide) (Nat.le_of_ble_eq_true rfl) rfl dX9_schedule_1 rfl (fun v lay' mem' n' hp => ?_)
  obtain ⟨q1, q2, q3, q4⟩ := hp
  subst q1; subst q2; subst q3; subst q4
  refine r_if_ne F (tgt := 11) ⟨by omega, by omega⟩ dX9_schedule_4 rfl (by decide) (fun h_4 => ?_) (fun h_4 => ?_)
  ·
    have hx1 : (N_rdt G m).1 = 1 := by omega
    obtain ⟨x4a, x4b⟩ := x4 hx1
    refine r_iconst F dX9_schedule_11 rfl ?_
    refine r_ist1 F (by decide) rfl dX9_schedule_12 rfl ?_
    have loop : ∀ (d c : Nat), c + d = (N_rdt G m).2.2.1.toNat → N_cas v (N_rdt G m).2.2.2 d c = N_cas v (N_rdt G m).2.2.2 (N_rdt G m).2.2.1.toNat 0 → ja_W C 0 0 lay (ja_rw (N_tG G m (N_rdt G m).2.1 (N_rdt G m).2.2.1 (N_rdt G m).2.2.2) (m + 1) (v)) n 13 [some (.ref (m)), some (.int (ja_I ((c : Int))))] [] := by
      intro d
      induction d with
      | zero =>
        intro c hc hl
        refine r_iload_n F rfl rfl dX9_schedule_13 rfl ?_
        refine r_aload_n F rfl rfl dX9_schedule_14 rfl ?_
        refine r_getI F f_X9_160 (hM.1) rfl dX9_schedule_15 rfl ?_
        refine r_eqz (z := (N_rdt G m).2.2.1) (by rw [ja_rw_n (by omega), N_tG_9]) ?_
        refine r_icmp_ge F (tgt := 41) ⟨by omega, by omega⟩ ⟨by omega, by omega⟩ dX9_schedule_18 rfl (by decide) (fun h_18 => ?_) (fun h_18 => ?_)
        ·
          have hc1 : ¬ N_cas v (N_rdt G m).2.2.2 (N_rdt G m).2.2.1.toNat 0 = 0 := by rw [← hl]; exact (by decide : ¬ (1 : Int) = 0)
          refine r_aload_n F rfl rfl dX9_schedule_41 rfl ?_
          refine r_getR F f_X9_7 (hM.1) rfl dX9_schedule_42 rfl ?_
          refine r_bipush F (by decide) dX9_schedule_45 rfl ?_
          refine r_iald F (ja_LM_1 hM) (by omega) (by omega) (by decide) dX9_schedule_47 rfl ?_
          refine r_eqz (z := ((v) 25)) (by rw [ja_rw_s, show Int.toNat 25 = 25 from rfl]) ?_
          refine r_aload_n F rfl rfl dX9_schedule_48 rfl ?_
          refine r_getI F f_X9_160 (hM.1) rfl dX9_schedule_49 rfl ?_
          refine r_eqz (z := (N_rdt G m).2.2.1) (by rw [ja_rw_n (by omega), N_tG_9]) ?_
          refine r_iadd F dX9_schedule_52 rfl ?_
          refine r_bipush F (by decide) dX9_schedule_53 rfl ?_
          refine r_icmp_le F (tgt := 62) ⟨by omega, by omega⟩ ⟨by omega, by omega⟩ dX9_schedule_55 rfl (by decide) (fun h_55 => ?_) (fun h_55 => ?_)
          ·
            refine r_iconst F dX9_schedule_62 rfl ?_
            refine r_ist1 F (by decide) rfl dX9_schedule_63 rfl ?_
            have lp2 : ∀ (d c : Nat), c + d = (4 * (N_rdt G m).2.2.1).toNat → ja_W C 0 0 lay (ja_rw (N_tG G m (N_rdt G m).2.1 (N_rdt G m).2.2.1 (N_rdt G m).2.2.2) (m + 1) (N_cpp v (N_rdt G m).2.2.2 c)) n 64 [some (.ref (m)), some (.int (ja_I ((c : Int))))] [] := by
              intro d
              induction d with
              | zero =>
                intro c hc
                have hn25 := N_cpp_n (v := v) (T := (N_rdt G m).2.2.2) (q := 25) hC25 c (by omega)
                refine r_iload_n F rfl rfl dX9_schedule_64 rfl ?_
                refine r_iconst F dX9_schedule_65 rfl ?_
                refine r_aload_n F rfl rfl dX9_schedule_66 rfl ?_
                refine r_getI F f_X9_160 (hM.1) rfl dX9_schedule_67 rfl ?_
                refine r_eqz (z := (N_rdt G m).2.2.1) (by rw [ja_rw_n (by omega), N_tG_9]) ?_
                refine r_imul F dX9_schedule_70 rfl ?_
                refine r_icmp_ge F (tgt := 106) ⟨by omega, by omega⟩ ⟨by omega, by omega⟩ dX9_schedule_71 rfl (by decide) (fun h_71 => ?_) (fun h_71 => ?_)
                ·
                  refine r_aload_n F rfl rfl dX9_schedule_106 rfl ?_
                  refine r_getR F f_X9_7 (hM.1) rfl dX9_schedule_107 rfl ?_
                  refine r_bipush F (by decide) dX9_schedule_110 rfl ?_
                  refine r_dup2 F rfl rfl dX9_schedule_112 rfl ?_
                  refine r_iald F (ja_LM_1 hM) (by omega) (by omega) (by decide) dX9_schedule_113 rfl ?_
                  refine r_eqz (z := (v 25)) (by rw [ja_rw_s, show Int.toNat 25 = 25 from rfl]; exact hn25) ?_
                  refine r_aload_n F rfl rfl dX9_schedule_114 rfl ?_
                  refine r_getI F f_X9_160 (hM.1) rfl dX9_schedule_115 rfl ?_
                  refine r_eqz (z := (N_rdt G m).2.2.1) (by rw [ja_rw_n (by omega), N_tG_9]) ?_
                  refine r_iadd F dX9_schedule_118 rfl ?_
                  refine r_iast F (ja_LM_1 hM) (by omega) (by omega) (by decide) dX9_schedule_119 rfl ?_
                  refine r_mem (mem' := ja_rw (N_tG G m (N_rdt G m).2.1 (N_rdt G m).2.2.1 (N_rdt G m).2.2.2) (m + 1) (ja_rs (N_cpp v (N_rdt G m).2.2.2 c) 25 ((v 25) + ((N_rdt G m).2.2.1)))) (ja_rw_up _ _ _ _ _) ?_
                  refine r_aload_n F rfl rfl dX9_schedule_120 rfl ?_
                  refine r_getI F f_X9_160 (hM.1) rfl dX9_schedule_121 rfl ?_
                  refine r_eqz (z := (N_rdt G m).2.2.1) (by rw [ja_rw_n (by omega), N_tG_9]) ?_
                  exact r_iret F Rt dX9_schedule_124 (by decide) ⟨by rw [N_sr, if_neg (by omega), if_neg hc1, if_neg (by omega)], rfl, by rw [N_sw, if_neg (by omega), if_neg hc1, if_neg (by omega), N_sd, show (4 * (N_rdt G m).2.2.1).toNat = c by omega], rfl⟩
                ·
                  exfalso; omega
              | succ d ih =>
                intro c hc
                have hn25 := N_cpp_n (v := v) (T := (N_rdt G m).2.2.2) (q := 25) hC25 c (by omega)
                refine r_iload_n F rfl rfl dX9_schedule_64 rfl ?_
                refine r_iconst F dX9_schedule_65 rfl ?_
                refine r_aload_n F rfl rfl dX9_schedule_66 rfl ?_
                refine r_getI F f_X9_160 (hM.1) rfl dX9_schedule_67 rfl ?_
                refine r_eqz (z := (N_rdt G m).2.2.1) (by rw [ja_rw_n (by omega), N_tG_9]) ?_
                refine r_imul F dX9_schedule_70 rfl ?_
                refine r_icmp_ge F (tgt := 106) ⟨by omega, by omega⟩ ⟨by omega, by omega⟩ dX9_schedule_71 rfl (by decide) (fun h_71 => ?_) (fun h_71 => ?_)
                ·
                  exfalso; omega
                ·
                  refine r_aload_n F rfl rfl dX9_schedule_74 rfl ?_
                  refine r_getR F f_X9_7 (hM.1) rfl dX9_schedule_75 rfl ?_
                  refine r_sipush F (by decide) dX9_schedule_78 rfl ?_
                  refine r_iconst F dX9_schedule_81 rfl ?_
                  refine r_aload_n F rfl rfl dX9_schedule_82 rfl ?_
                  refine r_getR F f_X9_7 (hM.1) rfl dX9_schedule_83 rfl ?_
                  refine r_bipush F (by decide) dX9_schedule_86 rfl ?_
                  refine r_iald F (ja_LM_1 hM) (by omega) (by omega) (by decide) dX9_schedule_88 rfl ?_
                  refine r_eqz (z := (v 25)) (by rw [ja_rw_s, show Int.toNat 25 = 25 from rfl]; exact hn25) ?_
                  refine r_imul F dX9_schedule_89 rfl ?_
                  refine r_iadd F dX9_schedule_90 rfl ?_
                  refine r_iload_n F rfl rfl dX9_schedule_91 rfl ?_
                  refine r_iadd F dX9_schedule_92 rfl ?_
                  refine r_aload_n F rfl rfl dX9_schedule_93 rfl ?_
                  refine r_getR F f_X9_32 (hM.1) rfl dX9_schedule_94 rfl ?_
                  refine r_iload_n F rfl rfl dX9_schedule_97 rfl ?_
                  refine r_iald F (ja_LM_8 hM) (by omega) (by omega) (by decide) dX9_schedule_98 rfl ?_
                  refine r_eqz (z := ((N_rdt G m).2.2.2 c)) (by rw [ja_rw_n (by omega), N_tG_8, ja_nat]) ?_
                  refine r_iast F (ja_LM_1 hM) (by omega) (by omega) (by decide) dX9_schedule_99 rfl ?_
                  refine r_mem (mem' := ja_rw (N_tG G m (N_rdt G m).2.1 (N_rdt G m).2.2.1 (N_rdt G m).2.2.2) (m + 1) (ja_rs (N_cpp v (N_rdt G m).2.2.2 c) (Int.toNat ((2388 + (4 * (v 25))) + (c : Int))) ((N_rdt G m).2.2.2 c))) (ja_rw_up _ _ _ _ _) ?_
                  refine r_inc1 F (by decide) rfl dX9_schedule_100 rfl ?_
                  refine r_goto F (tgt := 64) dX9_schedule_103 (by decide) ?_
                  exact ih (c + 1) (by omega)
            exact lp2 ((4 * (N_rdt G m).2.2.1).toNat) 0 (by omega)
          ·
            refine r_sipush F (by decide) dX9_schedule_58 rfl ?_
            exact r_iret F Rt dX9_schedule_61 (by decide) ⟨by rw [N_sr, if_neg (by omega), if_neg hc1, if_pos (by omega)], rfl, by rw [N_sw, if_neg (by omega), if_neg hc1, if_pos (by omega)], rfl⟩
        ·
          exfalso; omega
      | succ d ih =>
        intro c hc hl
        refine r_iload_n F rfl rfl dX9_schedule_13 rfl ?_
        refine r_aload_n F rfl rfl dX9_schedule_14 rfl ?_
        refine r_getI F f_X9_160 (hM.1) rfl dX9_schedule_15 rfl ?_
        refine r_eqz (z := (N_rdt G m).2.2.1) (by rw [ja_rw_n (by omega), N_tG_9]) ?_
        refine r_icmp_ge F (tgt := 41) ⟨by omega, by omega⟩ ⟨by omega, by omega⟩ dX9_schedule_18 rfl (by decide) (fun h_18 => ?_) (fun h_18 => ?_)
        ·
          exfalso; omega
        ·
          refine r_aload_n F rfl rfl dX9_schedule_21 rfl ?_
          refine r_iconst F dX9_schedule_22 rfl ?_
          refine r_iload_n F rfl rfl dX9_schedule_23 rfl ?_
          refine r_imul F dX9_schedule_24 rfl ?_
          refine r_callV F GC (c_X9_isArrival _ _ _ _ hM (i := (c : Int)) hR ⟨by omega, by omega⟩ (x4b _ (by omega) (by omega))) v_X9_174 rfl (hM.1) rfl (by decide) (by decide) (Nat.le_of_ble_eq_true rfl) rfl dX9_schedule_25 rfl (fun v lay' mem' n' hp => ?_)
          obtain ⟨q1, q2, q3, q4⟩ := hp
          subst q1; subst q2; subst q3; subst q4
          refine r_if_ne F (tgt := 35) ja_b_in dX9_schedule_28 rfl (by decide) (fun h_28 => ?_) (fun h_28 => ?_)
          ·
            have b_28 : (N_ia v (N_rdt G m).2.2.2 (c : Int)) := ja_b_1 h_28
            refine r_inc1 F (by decide) rfl dX9_schedule_35 rfl ?_
            refine r_goto F (tgt := 13) dX9_schedule_38 (by decide) ?_
            exact ih (c + 1) (by omega) (by rw [← hl]; simp only [N_cas]; rw [if_pos b_28])
          ·
            have b_28 : ¬ (N_ia v (N_rdt G m).2.2.2 (c : Int)) := ja_b_0.mp h_28
            refine r_sipush F (by decide) dX9_schedule_31 rfl ?_
            exact r_iret F Rt dX9_schedule_34 (by decide) ⟨by rw [N_sr, if_neg (by omega), if_pos (by rw [← hl]; simp only [N_cas]; rw [if_neg b_28])], rfl, by rw [N_sw, if_neg (by omega), if_pos (by rw [← hl]; simp only [N_cas]; rw [if_neg b_28])], rfl⟩
    exact loop _ 0 (by omega) rfl
  ·
    refine r_sipush F (by decide) dX9_schedule_7 rfl ?_
    exact r_iret F Rt dX9_schedule_10 (by decide) ⟨by rw [N_sr, if_pos h_4], rfl, by rw [N_sw, if_pos h_4], rfl⟩
end
section
theorem r_lay {C : ja_C} {cells slots n pc : Nat} {lay : ja_Y} {mem : ja_M} {ls : List (Option Value)} {st : List Value} (P : ja_Y → ja_M → Prop) (h : P lay mem) (k : ∀ (L : ja_Y) (M : ja_M), P L M → ja_W C cells slots L M n pc ls st) : ja_W C cells slots lay mem n pc ls st := k _ _ h
abbrev rm_X9_init : Room := { frames := 1, cells := 8, slots := 10250, locals := 20 }
set_option maxRecDepth 100000 in
set_option maxHeartbeats 4000000 in
theorem c_X9_init (l : Launch) (D : va_G) (cA : Nat → ClassId) (B : Nat) {lay : ja_Y} {mem : ja_M} {a : Nat} (h0 : lay a = some (.inl (9, [some .null, some .null, some .null, some .null, some .null, none, some .null, some .null, some .null, none, none]))) (hz : ∀ j, mem a j = 0) : ja_Mt l D cA B yX9_init cX9_init 1 none rm_X9_init [.ref a] lay mem (a + 1) (fun v lay' mem' n' => none = v ∧ n' = a + 9 ∧ ja_LM lay' a ∧ (∀ q, q < a → lay' q = lay q) ∧ (∀ q, q < a → mem' q = mem q) ∧ (∀ j, mem' (a + 1) j = N_v0 j) ∧ ∀ q j, a ≤ q → q < a + 9 → q ≠ a + 1 → mem' q j = 0) := by
  refine ja_enter [some (.ref a)] (by decide) (Nat.le_of_ble_eq_true rfl) (fun q hq => hq) (fun C F Rt G hnm => ?_)
  refine r_aload_n F rfl rfl dX9_init_0 rfl ?_
  refine r_objinit F i_X9_1 (Nat.le_of_ble_eq_true rfl) (by decide) (by decide) dX9_init_1 rfl ?_
  refine r_aload_n F rfl rfl dX9_init_4 rfl ?_
  refine r_sipush F (by decide) dX9_init_5 rfl ?_
  refine r_newa F (atype := .int) (kd := 0) a_int (by decide) rfl (by decide) (by decide) (by decide) (by decide) dX9_init_8 rfl ?_
  refine r_putF F hnm rfl rfl rfl f_X9_7 (ds := [some .null, some .null, some .null, some .null, some .null, none, some .null, some .null, some .null, none, none]) (by simp [ja_ly, h0] <;> omega) (Nat.le_of_ble_eq_true rfl) dX9_init_10 rfl ?_
  refine r_aload_n F rfl rfl dX9_init_13 rfl ?_
  refine r_sipush F (by decide) dX9_init_14 rfl ?_
  refine r_newa F (atype := .int) (kd := 0) a_int (by decide) rfl (by decide) (by decide) (by decide) (by decide) dX9_init_17 rfl ?_
  refine r_putF F hnm rfl rfl rfl f_X9_13 (ds := [some (.ref (a + 1)), some .null, some .null, some .null, some .null, none, some .null, some .null, some .null, none, none]) (by simp [ja_ly, h0] <;> omega) (Nat.le_of_ble_eq_true rfl) dX9_init_19 rfl ?_
  refine r_aload_n F rfl rfl dX9_init_22 rfl ?_
  refine r_sipush F (by decide) dX9_init_23 rfl ?_
  refine r_newa F (atype := .int) (kd := 0) a_int (by decide) rfl (by decide) (by decide) (by decide) (by decide) dX9_init_26 rfl ?_
  refine r_putF F hnm rfl rfl rfl f_X9_16 (ds := [some (.ref (a + 1)), some (.ref (a + 1 + 1)), some .null, some .null, some .null, none, some .null, some .null, some .null, none, none]) (by simp [ja_ly, h0] <;> omega) (Nat.le_of_ble_eq_true rfl) dX9_init_28 rfl ?_
  refine r_aload_n F rfl rfl dX9_init_31 rfl ?_
  refine r_iconst F dX9_init_32 rfl ?_
  refine r_newa F (atype := .boolean) (kd := 2) a_boolean (by decide) rfl (by decide) (by decide) (by decide) (by decide) dX9_init_33 rfl ?_
  refine r_putF F hnm rfl rfl rfl f_X9_19 (ds := [some (.ref (a + 1)), some (.ref (a + 1 + 1)), some (.ref (a + 1 + 1 + 1)), some .null, some .null, none, some .null, some .null, some .null, none, none]) (by simp [ja_ly, h0] <;> omega) (Nat.le_of_ble_eq_true rfl) dX9_init_35 rfl ?_
  refine r_aload_n F rfl rfl dX9_init_38 rfl ?_
  refine r_bipush F (by decide) dX9_init_39 rfl ?_
  refine r_newa F (atype := .int) (kd := 0) a_int (by decide) rfl (by decide) (by decide) (by decide) (by decide) dX9_init_41 rfl ?_
  refine r_putF F hnm rfl rfl rfl f_X9_23 (ds := [some (.ref (a + 1)), some (.ref (a + 1 + 1)), some (.ref (a + 1 + 1 + 1)), some (.ref (a + 1 + 1 + 1 + 1)), some .null, none, some .null, some .null, some .null, none, none]) (by simp [ja_ly, h0] <;> omega) (Nat.le_of_ble_eq_true rfl) dX9_init_43 rfl ?_
  refine r_aload_n F rfl rfl dX9_init_46 rfl ?_
  refine r_bipush F (by decide) dX9_init_47 rfl ?_
  refine r_newa F (atype := .int) (kd := 0) a_int (by decide) rfl (by decide) (by decide) (by decide) (by decide) dX9_init_49 rfl ?_
  refine r_putF F hnm rfl rfl rfl f_X9_26 (ds := [some (.ref (a + 1)), some (.ref (a + 1 + 1)), some (.ref (a + 1 + 1 + 1)), some (.ref (a + 1 + 1 + 1 + 1)), some (.ref (a + 1 + 1 + 1 + 1 + 1)), none, some .null, some .null, some .null, none, none]) (by simp [ja_ly, h0] <;> omega) (Nat.le_of_ble_eq_true rfl) dX9_init_51 rfl ?_
  refine r_aload_n F rfl rfl dX9_init_54 rfl ?_
  refine r_bipush F (by decide) dX9_init_55 rfl ?_
  refine r_newa F (atype := .int) (kd := 0) a_int (by decide) rfl (by decide) (by decide) (by decide) (by decide) dX9_init_57 rfl ?_
  refine r_putF F hnm rfl rfl rfl f_X9_29 (ds := [some (.ref (a + 1)), some (.ref (a + 1 + 1)), some (.ref (a + 1 + 1 + 1)), some (.ref (a + 1 + 1 + 1 + 1)), some (.ref (a + 1 + 1 + 1 + 1 + 1)), none, some (.ref (a + 1 + 1 + 1 + 1 + 1 + 1)), some .null, some .null, none, none]) (by simp [ja_ly, h0] <;> omega) (Nat.le_of_ble_eq_true rfl) dX9_init_59 rfl ?_
  refine r_aload_n F rfl rfl dX9_init_62 rfl ?_
  refine r_sipush F (by decide) dX9_init_63 rfl ?_
  refine r_newa F (atype := .int) (kd := 0) a_int (by decide) rfl (by decide) (by decide) (by decide) (by decide) dX9_init_66 rfl ?_
  refine r_putF F hnm rfl rfl rfl f_X9_32 (ds := [some (.ref (a + 1)), some (.ref (a + 1 + 1)), some (.ref (a + 1 + 1 + 1)), some (.ref (a + 1 + 1 + 1 + 1)), some (.ref (a + 1 + 1 + 1 + 1 + 1)), none, some (.ref (a + 1 + 1 + 1 + 1 + 1 + 1)), some (.ref (a + 1 + 1 + 1 + 1 + 1 + 1 + 1)), some .null, none, none]) (by simp [ja_ly, h0] <;> omega) (Nat.le_of_ble_eq_true rfl) dX9_init_68 rfl ?_
  refine r_lay (fun L K => ja_LM L a ∧ (∀ q, q < a → L q = lay q) ∧ (∀ q, q < a → K q = mem q) ∧ ∀ q j, a ≤ q → q < a + 9 → K q j = 0) ⟨⟨by simp [ja_ly], by simp [ja_ly]; try rfl, by simp [ja_ly]; try rfl, by simp [ja_ly]; try rfl, by simp [ja_ly]; try rfl, by simp [ja_ly]; try rfl, by simp [ja_ly]; try rfl, by simp [ja_ly]; try rfl, by simp [ja_ly]; try rfl⟩, fun q hq => by simp [ja_ly, show q ≠ a by omega, show q ≠ a + 1 by omega, show q ≠ a + 2 by omega, show q ≠ a + 3 by omega, show q ≠ a + 4 by omega, show q ≠ a + 5 by omega, show q ≠ a + 6 by omega, show q ≠ a + 7 by omega, show q ≠ a + 8 by omega], fun q hq => by funext j; simp [ja_zr, show q ≠ a by omega, show q ≠ a + 1 by omega, show q ≠ a + 2 by omega, show q ≠ a + 3 by omega, show q ≠ a + 4 by omega, show q ≠ a + 5 by omega, show q ≠ a + 6 by omega, show q ≠ a + 7 by omega, show q ≠ a + 8 by omega], fun q j h1 h2 => by simp only [ja_zr]; split <;> first | rfl | (split <;> first | rfl | (split <;> first | rfl | (split <;> first | rfl | (split <;> first | rfl | (split <;> first | rfl | (split <;> first | rfl | (split <;> first | rfl | (rw [show q = a by omega]; exact hz j))))))))⟩ (fun L K hP => ?_)
  obtain ⟨hLM, k1, k2, k3⟩ := hP
  have z1 : ∀ j, K (a + 1) j = 0 := fun j => k3 (a + 1) j (by omega) (by omega)
  refine r_aload_n F rfl rfl dX9_init_71 rfl ?_
  refine r_getR F f_X9_7 (hLM.1) rfl dX9_init_72 rfl ?_
  refine r_iconst F dX9_init_75 rfl ?_
  refine r_bipush F (by decide) dX9_init_76 rfl ?_
  refine r_iast F (ja_LM_1 hLM) (by omega) (by omega) (by decide) dX9_init_78 rfl ?_
  refine r_aload_n F rfl rfl dX9_init_79 rfl ?_
  refine r_getR F f_X9_7 (hLM.1) rfl dX9_init_80 rfl ?_
  refine r_iconst F dX9_init_83 rfl ?_
  refine r_bipush F (by decide) dX9_init_84 rfl ?_
  refine r_iast F (ja_LM_1 hLM) (by omega) (by omega) (by decide) dX9_init_86 rfl ?_
  refine r_aload_n F rfl rfl dX9_init_87 rfl ?_
  refine r_getR F f_X9_7 (hLM.1) rfl dX9_init_88 rfl ?_
  refine r_iconst F dX9_init_91 rfl ?_
  refine r_bipush F (by decide) dX9_init_92 rfl ?_
  refine r_iast F (ja_LM_1 hLM) (by omega) (by omega) (by decide) dX9_init_94 rfl ?_
  refine r_aload_n F rfl rfl dX9_init_95 rfl ?_
  refine r_getR F f_X9_7 (hLM.1) rfl dX9_init_96 rfl ?_
  refine r_iconst F dX9_init_99 rfl ?_
  refine r_iconst F dX9_init_100 rfl ?_
  refine r_iast F (ja_LM_1 hLM) (by omega) (by omega) (by decide) dX9_init_101 rfl ?_
  refine r_aload_n F rfl rfl dX9_init_102 rfl ?_
  refine r_getR F f_X9_7 (hLM.1) rfl dX9_init_103 rfl ?_
  refine r_iconst F dX9_init_106 rfl ?_
  refine r_iconst F dX9_init_107 rfl ?_
  refine r_iast F (ja_LM_1 hLM) (by omega) (by omega) (by decide) dX9_init_108 rfl ?_
  refine r_aload_n F rfl rfl dX9_init_109 rfl ?_
  refine r_getR F f_X9_7 (hLM.1) rfl dX9_init_110 rfl ?_
  refine r_iconst F dX9_init_113 rfl ?_
  refine r_bipush F (by decide) dX9_init_114 rfl ?_
  refine r_iast F (ja_LM_1 hLM) (by omega) (by omega) (by decide) dX9_init_116 rfl ?_
  refine r_aload_n F rfl rfl dX9_init_117 rfl ?_
  refine r_getR F f_X9_7 (hLM.1) rfl dX9_init_118 rfl ?_
  refine r_bipush F (by decide) dX9_init_121 rfl ?_
  refine r_bipush F (by decide) dX9_init_123 rfl ?_
  refine r_iast F (ja_LM_1 hLM) (by omega) (by omega) (by decide) dX9_init_125 rfl ?_
  refine r_aload_n F rfl rfl dX9_init_126 rfl ?_
  refine r_getR F f_X9_7 (hLM.1) rfl dX9_init_127 rfl ?_
  refine r_bipush F (by decide) dX9_init_130 rfl ?_
  refine r_bipush F (by decide) dX9_init_132 rfl ?_
  refine r_iast F (ja_LM_1 hLM) (by omega) (by omega) (by decide) dX9_init_134 rfl ?_
  refine r_aload_n F rfl rfl dX9_init_135 rfl ?_
  refine r_getR F f_X9_7 (hLM.1) rfl dX9_init_136 rfl ?_
  refine r_bipush F (by decide) dX9_init_139 rfl ?_
  refine r_iconst F dX9_init_141 rfl ?_
  refine r_iast F (ja_LM_1 hLM) (by omega) (by omega) (by decide) dX9_init_142 rfl ?_
  refine r_aload_n F rfl rfl dX9_init_143 rfl ?_
  refine r_getR F f_X9_7 (hLM.1) rfl dX9_init_144 rfl ?_
  refine r_bipush F (by decide) dX9_init_147 rfl ?_
  refine r_iconst F dX9_init_149 rfl ?_
  refine r_iast F (ja_LM_1 hLM) (by omega) (by omega) (by decide) dX9_init_150 rfl ?_
  exact r_vret F Rt dX9_init_151 (by decide) ⟨rfl, rfl, hLM, k1, fun q hq => by rw [ja_up_row (by omega)]; rw [ja_up_row (by omega)]; rw [ja_up_row (by omega)]; rw [ja_up_row (by omega)]; rw [ja_up_row (by omega)]; rw [ja_up_row (by omega)]; rw [ja_up_row (by omega)]; rw [ja_up_row (by omega)]; rw [ja_up_row (by omega)]; rw [ja_up_row (by omega)]; exact k2 q hq, fun j => by simp only [ja_up, N_v0, true_and, z1]; rfl, fun q j h1 h2 h3 => by rw [ja_up_row (by omega)]; rw [ja_up_row (by omega)]; rw [ja_up_row (by omega)]; rw [ja_up_row (by omega)]; rw [ja_up_row (by omega)]; rw [ja_up_row (by omega)]; rw [ja_up_row (by omega)]; rw [ja_up_row (by omega)]; rw [ja_up_row (by omega)]; rw [ja_up_row (by omega)]; exact k3 q j h1 h2⟩
end
section
theorem kI_X0 : Cond.instantiable RX0 8 ∈ lw_tbg := tm_2 28 rfl rfl
theorem kI_X1 : Cond.instantiable RX1 5 ∈ lw_tbg := tm_1 197 rfl rfl
theorem kI_X2 : Cond.instantiable RX2 9 ∈ lw_tbg := tm_1 152 rfl rfl
theorem kI_X3 : Cond.instantiable RX3 3 ∈ lw_tbg := tm_1 80 rfl rfl
theorem kI_X4 : Cond.instantiable RX4 8 ∈ lw_tbg := tm_1 118 rfl rfl
theorem kI_X5 : Cond.instantiable RX5 9 ∈ lw_tbg := tm_1 23 rfl rfl
theorem kI_X6 : Cond.instantiable RX6 9 ∈ lw_tbg := tm_1 29 rfl rfl
theorem kI_X7 : Cond.instantiable RX7 4 ∈ lw_tbg := tm_1 98 rfl rfl
theorem kI_X8 : Cond.instantiable RX8 5 ∈ lw_tbg := tm_1 15 rfl rfl
theorem kI_X9 : Cond.instantiable RX9 11 ∈ lw_tbg := tm_4 104 rfl rfl
theorem kO_X5 : Cond.arrayOver (.object RX5) ∈ lw_tbl := tn_2 26 rfl
end
