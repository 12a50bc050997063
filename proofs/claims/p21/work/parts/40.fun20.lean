-- a row is what it is below its length
theorem ja_H.ext {D : va_G} {cA : Nat → ClassId} {B n a N : Nat} {lay : ja_Y} {mem : ja_M} {H : Heap} {r : Nat → Option Nat} {f g : Nat → Int} (hH : ja_H D cA B lay (ja_rw mem a f) n H) (hy : lay a = some (.inr (0, N, r))) (h : ∀ j, j < N → f j = g j) : ja_H D cA B lay (ja_rw mem a g) n H := by
  refine ⟨hH.1, fun q e hq => ?_⟩
  obtain ⟨h1, h2, h3⟩ := hH.2 q e hq
  refine ⟨h1, h2, ?_⟩
  by_cases hqa : q = a
  · subst hqa
    rw [hy] at hq
    cases hq
    rw [ja_rw_s] at h3 ⊢
    have key : ∀ F K : Nat → Value, (∀ j, j < N → F j = K j) → arrV (cA 0) N F = arrV (cA 0) N K := fun F K hFK => by
      unfold arrV
      rw [show (fun j : Fin N => F j.val) = (fun j : Fin N => K j.val) from funext fun j => hFK j.val j.isLt]
    have e1 : vp_cell (cA 0) (N, .inl (fun j => ja_I (f j))) = vp_cell (cA 0) (N, .inl (fun j => ja_I (g j))) := by
      rw [vp_cell_i, vp_cell_i]
      exact key _ _ (fun j hj => by rw [h j hj])
    show H[q]? = some (vp_cell (cA 0) (N, .inl (fun j => ja_I (g j))))
    rw [← e1]
    exact h3
  · rw [ja_rw_n hqa] at h3 ⊢
    exact h3
theorem r_ext {C : ja_C} {cells slots n pc a N : Nat} {lay : ja_Y} {mem : ja_M} {r : Nat → Option Nat} {f g : Nat → Int} {ls : List (Option Value)} {st : List Value} (hy : lay a = some (.inr (0, N, r))) (h : ∀ j, j < N → f j = g j) (k : ja_W C cells slots lay (ja_rw mem a g) n pc ls st) : ja_W C cells slots lay (ja_rw mem a f) n pc ls st := by
  obtain ⟨p, l, e, R, s, m, args, below, meth, c, D, cA, B, nL, Q⟩ := C
  intro H locs lsA hH hS hl
  exact k H locs lsA (hH.ext hy h) hS hl
-- time passes
def N_ad (v : Nat → Int) : Nat → (Nat → Int)
  | 0 => v
  | k + 1 => N_ti (N_ad v k)
def N_at (v : Nat → Int) : Nat → Int
  | 0 => 0
  | k + 1 => N_at v k + N_to (N_ad v k)
def N_ag (v : Nat → Int) : Nat → Int
  | 0 => 0
  | k + 1 => N_ag v k + if N_ti (N_ad v k) 27 = 3 then 1 else 0
def N_xg : Nat → Nat → (Nat → Int) → Int
  | 0, _, _ => -1004
  | r + 1, i, v => if N_ti v 27 = 3 then (i : Int) else N_xg r (i + 1) (N_ti v)
def N_xf (x : Int) : Nat → Nat → (Nat → Int) → Int
  | 0, _, _ => -1004
  | r + 1, i, v => if x < N_ti v 11 then (i : Int) else N_xf x r (i + 1) (N_ti v)
theorem N_ad_O {v : Nat → Int} {t : Int} (h : N_O v t) : ∀ k : Nat, t + k ≤ 900001 → N_O (N_ad v k) (t + k)
  | 0, _ => by
    rw [show t + ((0 : Nat) : Int) = t by omega]
    exact h
  | k + 1, hk => by
    have ih := N_ad_O h k (by omega)
    have := N_ti_O ih (by omega)
    rw [show t + ((k + 1 : Nat) : Int) = t + k + 1 by omega]
    exact this
theorem N_to_in {v : Nat → Int} : 0 ≤ N_to v ∧ N_to v ≤ 1 := by
  unfold N_to
  split <;> omega
theorem N_at_in {v : Nat → Int} : ∀ k : Nat, 0 ≤ N_at v k ∧ N_at v k ≤ k
  | 0 => by simp [N_at]
  | k + 1 => by
    have ih := @N_at_in v k
    have := @N_to_in (N_ad v k)
    simp only [N_at]
    omega
theorem N_ag_in {v : Nat → Int} : ∀ k : Nat, 0 ≤ N_ag v k ∧ N_ag v k ≤ k
  | 0 => by simp [N_ag]
  | k + 1 => by
    have ih := @N_ag_in v k
    simp only [N_ag]
    split <;> omega
/-- rows that may have changed behind a prediction: spare, sorted, x -/
def N_gp (m : Nat) (G G' : ja_M) : Prop := ∀ q, q ≠ m + 2 → q ≠ m + 6 → q ≠ m + 7 → G' q = G q
theorem N_ge.gp {m : Nat} {G G' : ja_M} (h : N_ge m G G') : N_gp m G G' := fun q _ a b => h q a b
theorem N_gp.tr {m : Nat} {G G' G'' : ja_M} (h : N_gp m G G') (h2 : N_gp m G' G'') : N_gp m G G'' := fun q a b c => (h2 q a b c).trans (h q a b c)
theorem N_gp.rw2 {m : Nat} {G : ja_M} {f : Nat → Int} : N_gp m G (ja_rw G (m + 2) f) := fun _ a _ _ => ja_rw_n a
def N_pp (lay : ja_Y) (m n : Nat) (G : ja_M) (f : Nat → Int) (r : Option Value) : ja_P := fun v lay' mem' n' => r = v ∧ lay = lay' ∧ n = n' ∧ ∃ G', N_gp m G G' ∧ mem' = ja_rw G' (m + 1) f
-- answers
abbrev N_isF (x : Int) : Prop := 0 ≤ x ∧ x ≤ 999
def N_ou (v : Nat → Int) (k : Int) : Int := if 1 ≤ k ∧ k ≤ 256 then (if v 12 < k then -1004 else N_ol v k) else -1001
def N_ki (v : Nat → Int) (k : Int) : Int := if 1 ≤ k ∧ k ≤ 32 then (if v 11 < k then -1004 else v (2310 + k - 1).toNat) else -1001
def N_ur (v : Nat → Int) (k : Int) : Int := ((N_un (N_rs 1 k 40 0 v).2 (N_ar v * k) (N_ar v).toNat : Nat) : Int)
def N_ps (v : Nat → Int) (r k i p : Int) : Nat → Int
  | 0 => 0
  | j + 1 => (ja_I (N_ps v r k i p j) ^^^ ja_I (if 999 < N_cv v r k i j then 0 else N_wv v (N_cv v r k i j) p + 128)).toInt
def N_ls (v : Nat → Int) (d : Int) : Int := if v 21 = 0 then (if d = 0 then 0 else 1) else (if d = 0 then v 21 else v 11) / (Nat.gcd (v 11).toNat (v 21).toNat : Nat)
theorem N_ur_in {v : Nat → Int} {k : Int} (hS : N_S v) : 0 ≤ N_ur v k ∧ N_ur v k ≤ 36 := by
  have h := @N_un_le (N_rs 1 k 40 0 v).2 (N_ar v * k) (N_ar v).toNat
  have h2 := N_ar_in hS
  unfold N_ur
  omega
-- the slots
def N_kr (g v : Nat → Int) (k : Int) (c : Nat) : Nat → Int := fun j => if (2484 * k).toNat ≤ j ∧ j < (2484 * k).toNat + c then v (j - (2484 * k).toNat) else g j
theorem N_kr_0 {g v : Nat → Int} {k : Int} : N_kr g v k 0 = g := by
  funext j
  unfold N_kr
  rw [if_neg (by omega)]
theorem N_kr_s {g v : Nat → Int} {k : Int} {c : Nat} : ja_rs (N_kr g v k c) ((2484 * k).toNat + c) (v c) = N_kr g v k (c + 1) := by
  funext j
  unfold N_kr ja_rs
  by_cases hj : j = (2484 * k).toNat + c
  · rw [if_pos hj, if_pos (by omega), show j - (2484 * k).toNat = c by omega]
  · rw [if_neg hj]
    dsimp only
    by_cases h1 : (2484 * k).toNat ≤ j ∧ j < (2484 * k).toNat + c
    · rw [if_pos h1, if_pos (by omega)]
    · rw [if_neg h1, if_neg (by omega)]
def N_mix (f g : Nat → Int) (c : Nat) : Nat → Int := fun j => if j < c then f j else g j
theorem N_mix_0 {f g : Nat → Int} : N_mix f g 0 = g := by
  funext j
  unfold N_mix
  rw [if_neg (by omega)]
theorem N_mix_s {f g : Nat → Int} {c : Nat} : ja_rs (N_mix f g c) c (f c) = N_mix f g (c + 1) := by
  funext j
  unfold N_mix ja_rs
  by_cases hj : j = c
  · rw [if_pos hj, if_pos (by omega), hj]
  · rw [if_neg hj]
    dsimp only
    by_cases h1 : j < c
    · rw [if_pos h1, if_pos (by omega)]
    · rw [if_neg h1, if_neg (by omega)]
theorem N_mix_in {f g : Nat → Int} {c j : Nat} (h : j < c) : N_mix f g c j = f j := by
  unfold N_mix
  rw [if_pos h]
