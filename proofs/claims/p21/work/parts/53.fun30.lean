-- THE INVARIANT OF A RUN OF CALLS, with a tie S between a receiver and the reference's row
theorem ja_RO.mono {mem : ja_M} {b : Nat} {t t' : Int} (h : ja_RO mem b t) (ht : t ≤ t') : ja_RO mem b t' := by
  obtain ⟨g1, g2, g3, g4, g5, g6, g7, g8, g9, g10, g11, g12⟩ := h
  exact ⟨g1, g2, g3, g4, g5, ⟨g6.1, by omega⟩, g7, ⟨g8.1, by omega⟩, g9, g10, g11, g12⟩
theorem N_O.mono {v : Nat → Int} {t t' : Int} (h : N_O v t) (ht : t ≤ t') : N_O v t' := by
  obtain ⟨g1, ⟨o1, o2, o3, o4, o5, o6, o7⟩, g3⟩ := h
  exact ⟨g1, ⟨by omega, by omega, o3, o4, o5, o6, o7⟩, g3⟩
theorem N_in_c {v w : Nat → Int} (h : ∀ j, j < 2484 → w j = v j) (hR : N_R v) : N_R w := fun j hj => by rw [h j hj]; exact hR j hj
theorem N_O.c {v w : Nat → Int} {t : Int} (h : ∀ j, j < 2484 → w j = v j) (hO : N_O v t) : N_O w t := by
  obtain ⟨g1, g2, g3⟩ := hO
  have hC := g1.C
  refine ⟨N_in_c h g1, ?_, ?_⟩
  · rw [h 9 (by omega), h 10 (by omega), h 11 (by omega), h 12 (by omega), h 13 (by omega), h 14 (by omega), h 21 (by omega), h 22 (by omega), h 23 (by omega)]
    exact g2
  · intro j j0 jl
    rw [h 25 (by omega)] at jl
    have hj := g3 j j0 jl
    have hs : N_ss v w := fun q hq => h q (by omega)
    rw [h (2388 + 4 * j).toNat (by omega), h (2388 + 4 * j + 1).toNat (by omega), h (2388 + 4 * j + 2).toNat (by omega)]
    exact ⟨hj.1, hj.2.1, fun q => hs.hP.mpr (hj.2.2 q)⟩
abbrev R_bg (mem : ja_M) (b : Nat) : Prop := ¬ mem b 7 = 0 ∨ 0 < mem (b + 15) 4
abbrev S_T : Type := ja_M → Nat → (Nat → Int) → Prop
/-- the text of both -/
def L_x (mem : ja_M) (y : Nat) (G : ja_M) (m : Nat) : Prop := mem (y + 42) 1 = G m 5 ∧ ∀ j : Nat, (j : Int) < G m 5 → mem (y + 42 + 1) j = G (m + 5) j
def S_cg (S : S_T) : Prop := ∀ (mem mem' : ja_M) (b : Nat) (v v' : Nat → Int), (∀ q, b ≤ q → q < b + 20 → mem' q = mem q) → (∀ j, j < 2484 → v' j = v j) → S mem b v → S mem' b v'
def S_cy (S : S_T) : Prop := ∀ (mem mem' : ja_M) (b o : Nat) (v : Nat → Int) (t : Int), ja_RO mem o t → R_eq mem' b mem o → S mem o v → S mem' b v
def S_s1 (S : S_T) : Prop := ∀ (mem : ja_M) (b : Nat) (v : Nat → Int) (t : Int) (P : Prop) [Decidable P] (j : Nat) (z : Int), j < 6 → ja_RO mem b t → N_O v t → S mem b v → S (if P ∧ ¬ R_bg mem b then ja_up mem (b + 1) j z else mem) b (if P ∧ ¬ N_bg v then ja_rs v j z else v)
def S_s2 (S : S_T) : Prop := ∀ (mem : ja_M) (b : Nat) (v : Nat → Int) (t : Int) (P : Prop) [Decidable P] (j i : Nat) (z w : Int), j < 6 → i < 6 → ja_RO mem b t → N_O v t → S mem b v → S (if P ∧ ¬ R_bg mem b then ja_up (ja_up mem (b + 1) j z) (b + 1) i w else mem) b (if P ∧ ¬ N_bg v then ja_rs (ja_rs v j z) i w else v)
def S_s3 (S : S_T) : Prop := ∀ (mem : ja_M) (b : Nat) (v : Nat → Int) (P : Prop) [Decidable P] (j : Nat) (z : Int), 6 ≤ j → j < 9 → S mem b v → S (if P then ja_up mem (b + 1) j z else mem) b (if P then ja_rs v j z else v)
def S_af (S : S_T) : Prop := ∀ (mem : ja_M) (b : Nat) (v : Nat → Int) (t x : Int), ja_RO mem b t → N_O v t → t ≤ 900000 → (0 ≤ x ∧ x ≤ 999) → S mem b v → S (R_af mem b x) b (N_av v x)
def S_ap (S : S_T) : Prop := ∀ (mem : ja_M) (b : Nat) (v : Nat → Int) (t r k i : Int), ja_RO mem b t → N_O v t → t ≤ 900000 → (0 ≤ r ∧ r ≤ 1) → S mem b v → S (if ja_hasP mem (b + 1) r k i then R_ap mem b r k i else mem) b (if N_hP v r k i then N_qv v r k i else v)
def S_tk (S : S_T) : Prop := ∀ (mem : ja_M) (b : Nat) (v : Nat → Int) (t : Int), ja_RO mem b t → N_O v t → t ≤ 900000 → S mem b v → S (R_tk mem b) b (N_ti v)
def S_sc (S : S_T) : Prop := ∀ (mem G : ja_M) (y m : Nat) (v : Nat → Int) (t : Int), ja_RO mem (y + 1) t → ja_HO mem (y + 42) → ja_AO mem (y + 44) → N_O v t → N_TO G m → L_x mem y G m → S mem (y + 1) v → S (B_sc mem y).2 (y + 1) (N_sw v (N_rdt G m))
def S_in (S : S_T) : Prop := ∀ (mem : ja_M) (b : Nat), Z_R mem b → S mem b N_v0
/-- what a tie must bear -/
def S_ok (S : S_T) : Prop := S_cg S ∧ S_cy S ∧ S_s1 S ∧ S_s2 S ∧ S_s3 S ∧ S_af S ∧ S_ap S ∧ S_tk S ∧ S_sc S ∧ S_in S
def L_c (lay : ja_Y) (mem : ja_M) (n y : Nat) (sl : Nat → Option Nat) (t : Int) : Prop := ja_LB lay y sl ∧ ja_BO mem y sl t ∧ y + 58 ≤ n ∧ (∀ i o, i < 2 → sl i = some o → y + 58 ≤ o ∧ o + 20 ≤ n) ∧ ∀ o0 o1, sl 0 = some o0 → sl 1 = some o1 → o0 + 20 ≤ o1 ∨ o1 + 20 ≤ o0
def L_r (lay : ja_Y) (mem : ja_M) (m : Nat) (t : Int) : Prop := ja_LM lay m ∧ N_O (mem (m + 1)) t ∧ N_TO mem m ∧ (∀ j, 0 ≤ mem (m + 4) j ∧ mem (m + 4) j ≤ 1) ∧ ∀ s : Nat, s < 2 → mem (m + 4) s = 1 → N_O (fun j => mem (m + 3) (2484 * s + j)) t
def L_s (S : S_T) (mem : ja_M) (y : Nat) (sl : Nat → Option Nat) : Prop := ∀ s : Nat, s < 2 → (sl s = none → mem (y + 49 + 4) s = 0) ∧ ∀ o, sl s = some o → mem (y + 49 + 4) s = 1 ∧ S mem o (fun j => mem (y + 49 + 3) (2484 * s + j))
def L_In (S : S_T) (lay : ja_Y) (mem : ja_M) (n y : Nat) (sl : Nat → Option Nat) (t : Int) : Prop := L_c lay mem n y sl t ∧ L_r lay mem (y + 49) t ∧ S mem (y + 1) (mem (y + 49 + 1)) ∧ L_x mem y mem (y + 49) ∧ L_s S mem y sl
-- the class's ranges
theorem ja_HO_c {mem M : ja_M} {x : Nat} (h0 : M x = mem x) (h1 : M (x + 1) = mem (x + 1)) (h : ja_HO mem x) : ja_HO M x := by
  unfold ja_HO
  rw [h0, h1]
  exact h
theorem BO_cg {mem M : ja_M} {y : Nat} {sl : Nat → Option Nat} {t t' : Int} (ht : t ≤ t') (h : ja_BO mem y sl t) (hf : ∀ q, y ≤ q → q < y + 49 → M q = mem q) (hs : ∀ i o q, i < 2 → sl i = some o → o ≤ q → q < o + 20 → M q = mem q) : ja_BO M y sl t' := by
  obtain ⟨h1, ⟨t2, h2⟩, h3, h4, h5⟩ := h
  exact ⟨ja_RO_all (fun q a b => hf q (by omega) (by omega)) (h1.mono ht), ⟨t2, ja_RO_all (fun q a b => hf q (by omega) (by omega)) h2⟩, ja_HO_c (hf _ (by omega) (by omega)) (hf _ (by omega) (by omega)) h3, ja_AO_c (fun q a b => hf q (by omega) (by omega)) h4, fun i o hi ho => ja_RO_all (fun q a b => hs i o q hi ho a b) ((h5 i o hi ho).mono ht)⟩
theorem BO_recv {mem M : ja_M} {y : Nat} {sl : Nat → Option Nat} {t t' : Int} (ht : t ≤ t') (h : ja_BO mem y sl t) (hs : ∀ i o, i < 2 → sl i = some o → y + 21 ≤ o) (hR : ja_RO M (y + 1) t') (hf : ∀ q, y + 21 ≤ q → M q = mem q) : ja_BO M y sl t' := by
  obtain ⟨h1, ⟨t2, h2⟩, h3, h4, h5⟩ := h
  exact ⟨hR, ⟨t2, ja_RO_all (fun q a b => hf q (by omega)) h2⟩, ja_HO_c (hf _ (by omega)) (hf _ (by omega)) h3, ja_AO_c (fun q a b => hf q (by omega)) h4, fun i o hi ho => ja_RO_all (fun q a b => hf q (by have := hs i o hi ho; omega)) ((h5 i o hi ho).mono ht)⟩
theorem BO_fore {mem M : ja_M} {y : Nat} {sl : Nat → Option Nat} {t t' : Int} (ht : t ≤ t') (h : ja_BO mem y sl t) (hs : ∀ i o, i < 2 → sl i = some o → y + 41 ≤ o) (hR : ∃ t2, ja_RO M (y + 21) t2) (hf : ∀ q, (q < y + 21 ∨ y + 41 ≤ q) → M q = mem q) : ja_BO M y sl t' := by
  obtain ⟨h1, -, h3, h4, h5⟩ := h
  exact ⟨ja_RO_all (fun q a b => hf q (by omega)) (h1.mono ht), hR, ja_HO_c (hf _ (by omega)) (hf _ (by omega)) h3, ja_AO_c (fun q a b => hf q (by omega)) h4, fun i o hi ho => ja_RO_all (fun q a b => hf q (by have := hs i o hi ho; omega)) ((h5 i o hi ho).mono ht)⟩
theorem BO_text {mem M : ja_M} {y : Nat} {sl : Nat → Option Nat} {t t' : Int} (ht : t ≤ t') (h : ja_BO mem y sl t) (hs : ∀ i o, i < 2 → sl i = some o → y + 49 ≤ o) (hR : ja_RO M (y + 1) t') (hH : ja_HO M (y + 42)) (hA : ja_AO M (y + 44)) (hf : ∀ q, ((y + 21 ≤ q ∧ q < y + 42) ∨ y + 49 ≤ q) → M q = mem q) : ja_BO M y sl t' := by
  obtain ⟨-, ⟨t2, h2⟩, -, -, h5⟩ := h
  exact ⟨hR, ⟨t2, ja_RO_all (fun q a b => hf q (by omega)) h2⟩, hH, hA, fun i o hi ho => ja_RO_all (fun q a b => hf q (by have := hs i o hi ho; omega)) ((h5 i o hi ho).mono ht)⟩
/-- the reference's other rows, behind a call -/
def N_rf (m : Nat) (G G' : ja_M) : Prop := (∀ q, q ≠ m → q ≠ m + 2 → q ≠ m + 6 → q ≠ m + 7 → q ≠ m + 8 → G' q = G q) ∧ G' m 5 = G m 5
theorem N_rf.rf {m : Nat} {G : ja_M} : N_rf m G G := ⟨fun _ _ _ _ _ _ => rfl, rfl⟩
theorem N_ge.f {m : Nat} {G G' : ja_M} (h : N_ge m G G') : N_rf m G G' := ⟨fun q _ _ a b _ => h q a b, by rw [h m (by omega) (by omega)]⟩
theorem N_gp.f {m : Nat} {G G' : ja_M} (h : N_gp m G G') : N_rf m G G' := ⟨fun q _ a b c _ => h q a b c, by rw [h m (by omega) (by omega) (by omega)]⟩
theorem N_tG.f {m : Nat} {G : ja_M} {p tl : Int} {T : Nat → Int} : N_rf m G (N_tG G m p tl T) := ⟨fun q a _ _ _ b => N_tG_o a b, N_tG_j (by omega) (by omega)⟩
/-- a step that leaves the text and the slots -/
theorem In_step {S : S_T} (hS : S_ok S) {lay : ja_Y} {mem : ja_M} {n y : Nat} {sl : Nat → Option Nat} {t : Int} (h : L_In S lay mem n y sl t) {M1 G' : ja_M} {v' : Nat → Int} (c1 : ∀ q, y + 49 ≤ q → M1 q = mem q) (c2 : M1 (y + 42) 1 = mem (y + 42) 1) (c3 : M1 (y + 42 + 1) = mem (y + 42 + 1)) (cB : ja_BO M1 y sl (t + 500)) (hG : N_rf (y + 49) M1 G') (hO : N_O v' (t + 500)) (hs : S M1 (y + 1) v') : L_In S lay (ja_rw G' (y + 49 + 1) v') n y sl (t + 500) := by
  obtain ⟨⟨a1, a2, a3, a4, a5⟩, ⟨b1, b2, b3, b4, b5⟩, hT, hx, hsl⟩ := h
  obtain ⟨cg, -⟩ := hS
  have f1 : ∀ q, q ≠ y + 49 → q ≠ y + 49 + 1 → q ≠ y + 49 + 2 → q ≠ y + 49 + 6 → q ≠ y + 49 + 7 → q ≠ y + 49 + 8 → ja_rw G' (y + 49 + 1) v' q = M1 q := fun q d0 d1 d2 d6 d7 d8 => by rw [ja_rw_n d1]; exact hG.1 q d0 d2 d6 d7 d8
  have f5 : ja_rw G' (y + 49 + 1) v' (y + 49) 5 = mem (y + 49) 5 := by rw [ja_rw_n (by omega), hG.2, c1 _ (by omega)]
  have k3 : ja_rw G' (y + 49 + 1) v' (y + 49 + 3) = mem (y + 49 + 3) := by rw [f1 _ (by omega) (by omega) (by omega) (by omega) (by omega) (by omega), c1 _ (by omega)]
  have k4 : ja_rw G' (y + 49 + 1) v' (y + 49 + 4) = mem (y + 49 + 4) := by rw [f1 _ (by omega) (by omega) (by omega) (by omega) (by omega) (by omega), c1 _ (by omega)]
  have k5 : ja_rw G' (y + 49 + 1) v' (y + 49 + 5) = mem (y + 49 + 5) := by rw [f1 _ (by omega) (by omega) (by omega) (by omega) (by omega) (by omega), c1 _ (by omega)]
  refine ⟨⟨a1, ?_, a3, a4, a5⟩, ⟨b1, ?_, ?_, ?_, ?_⟩, ?_, ⟨?_, ?_⟩, fun s hs2 => ⟨fun q => ?_, fun o q => ?_⟩⟩
  · exact BO_cg (by omega) cB (fun q d1 d2 => f1 q (by omega) (by omega) (by omega) (by omega) (by omega) (by omega)) (fun i o q hi ho d1 d2 => f1 q (by have := a4 i o hi ho; omega) (by have := a4 i o hi ho; omega) (by have := a4 i o hi ho; omega) (by have := a4 i o hi ho; omega) (by have := a4 i o hi ho; omega) (by have := a4 i o hi ho; omega))
  · rw [ja_rw_s]
    exact hO
  · unfold N_TO
    rw [f5, k5]
    exact b3
  · rw [k4]
    exact b4
  · rw [k3, k4]
    exact fun s d1 d2 => (b5 s d1 d2).mono (by omega)
  · rw [ja_rw_s]
    exact cg M1 _ (y + 1) v' v' (fun q d1 d2 => f1 q (by omega) (by omega) (by omega) (by omega) (by omega) (by omega)) (fun _ _ => rfl) hs
  · rw [f5, f1 _ (by omega) (by omega) (by omega) (by omega) (by omega) (by omega), c2]
    exact hx.1
  · rw [f5, k5, f1 _ (by omega) (by omega) (by omega) (by omega) (by omega) (by omega), c3]
    exact hx.2
  · rw [k4]
    exact (hsl s hs2).1 q
  · obtain ⟨e1, e2⟩ := (hsl s hs2).2 o q
    have ho := a4 s o hs2 q
    rw [k3, k4]
    exact ⟨e1, cg mem _ o _ _ (fun q d1 d2 => by rw [f1 q (by omega) (by omega) (by omega) (by omega) (by omega) (by omega), c1 q (by omega)]) (fun _ _ => rfl) e2⟩
-- ranges behind each call: setters
theorem RO_set {mem M : ja_M} {b : Nat} {t : Int} (h : ja_RO mem b t) (hq : ∀ q, q ≠ b + 1 → M q = mem q) (hS : ja_SO M (b + 1)) (hv : (M (b + 1) 3 = mem (b + 1) 3 ∧ M (b + 1) 4 = mem (b + 1) 4) ∨ mem (b + 15) 4 ≤ 0) : ja_RO M b t := by
  obtain ⟨g1, g2, g3, g4, g5, g6, g7, g8, g9, g10, g11, g12⟩ := h
  have e : ∀ c, c ≠ 1 → M (b + c) = mem (b + c) := fun c hc => hq _ (by omega)
  have e0 : M b = mem b := hq b (by omega)
  refine ⟨hS, ja_TO_c (hq _ (by omega)) (hq _ (by omega)) (hq _ (by omega)) g2, ja_PO_c (hq _ (by omega)) (hq _ (by omega)) (hq _ (by omega)) (hq _ (by omega)) g3, ja_AO_c (fun q a c => hq q (by omega)) g4, ?_, by rw [e0]; exact g6, by rw [e0]; exact g7, by rw [e0]; exact g8, by rw [e0, hq (b + 9) (by omega)]; exact g9, by rw [hq (b + 14) (by omega), hq (b + 9) (by omega)]; exact g10, by rw [hq (b + 14) (by omega), hq (b + 9) (by omega)]; exact g11, by rw [hq (b + 14) (by omega), hq (b + 9) (by omega)]; exact g12⟩
  intro j hj
  rw [hq (b + 15) (by omega)] at hj
  rcases hv with ⟨h3, h4⟩ | hv
  · rw [hq (b + 15 + 1) (by omega), hq (b + 15 + 2) (by omega), hq (b + 15 + 3) (by omega)]
    have e5 : ∀ r k i, ja_hasP M (b + 1) r k i = ja_hasP mem (b + 1) r k i := fun r k i => by simp only [ja_hasP, ja_hasB, ja_cells, h3, h4]
    rw [e5]
    exact g5 j hj
  · omega
theorem SO_up {mem : ja_M} {s j : Nat} {z : Int} (h : ja_SO mem s) (hz : N_in j z) (hj : j < 9) : ja_SO (ja_up mem s j z) s := by
  obtain ⟨s0, s1, s2, s3, s4, s5, s6, s7, s8⟩ := h
  rcases (show j = 0 ∨ j = 1 ∨ j = 2 ∨ j = 3 ∨ j = 4 ∨ j = 5 ∨ j = 6 ∨ j = 7 ∨ j = 8 by omega) with rfl | rfl | rfl | rfl | rfl | rfl | rfl | rfl | rfl
  · exact ⟨by rw [ja_up_s]; exact hz, by rw [ja_up_j (by omega)]; exact s1, by rw [ja_up_j (by omega)]; exact s2, by rw [ja_up_j (by omega)]; exact s3, by rw [ja_up_j (by omega)]; exact s4, by rw [ja_up_j (by omega)]; exact s5, by rw [ja_up_j (by omega)]; exact s6, by rw [ja_up_j (by omega)]; exact s7, by rw [ja_up_j (by omega)]; exact s8⟩
  · exact ⟨by rw [ja_up_j (by omega)]; exact s0, by rw [ja_up_s]; exact hz, by rw [ja_up_j (by omega)]; exact s2, by rw [ja_up_j (by omega)]; exact s3, by rw [ja_up_j (by omega)]; exact s4, by rw [ja_up_j (by omega)]; exact s5, by rw [ja_up_j (by omega)]; exact s6, by rw [ja_up_j (by omega)]; exact s7, by rw [ja_up_j (by omega)]; exact s8⟩
  · exact ⟨by rw [ja_up_j (by omega)]; exact s0, by rw [ja_up_j (by omega)]; exact s1, by rw [ja_up_s]; exact hz, by rw [ja_up_j (by omega)]; exact s3, by rw [ja_up_j (by omega)]; exact s4, by rw [ja_up_j (by omega)]; exact s5, by rw [ja_up_j (by omega)]; exact s6, by rw [ja_up_j (by omega)]; exact s7, by rw [ja_up_j (by omega)]; exact s8⟩
  · exact ⟨by rw [ja_up_j (by omega)]; exact s0, by rw [ja_up_j (by omega)]; exact s1, by rw [ja_up_j (by omega)]; exact s2, by rw [ja_up_s]; exact hz, by rw [ja_up_j (by omega)]; exact s4, by rw [ja_up_j (by omega)]; exact s5, by rw [ja_up_j (by omega)]; exact s6, by rw [ja_up_j (by omega)]; exact s7, by rw [ja_up_j (by omega)]; exact s8⟩
  · exact ⟨by rw [ja_up_j (by omega)]; exact s0, by rw [ja_up_j (by omega)]; exact s1, by rw [ja_up_j (by omega)]; exact s2, by rw [ja_up_j (by omega)]; exact s3, by rw [ja_up_s]; exact hz, by rw [ja_up_j (by omega)]; exact s5, by rw [ja_up_j (by omega)]; exact s6, by rw [ja_up_j (by omega)]; exact s7, by rw [ja_up_j (by omega)]; exact s8⟩
  · exact ⟨by rw [ja_up_j (by omega)]; exact s0, by rw [ja_up_j (by omega)]; exact s1, by rw [ja_up_j (by omega)]; exact s2, by rw [ja_up_j (by omega)]; exact s3, by rw [ja_up_j (by omega)]; exact s4, by rw [ja_up_s]; exact hz, by rw [ja_up_j (by omega)]; exact s6, by rw [ja_up_j (by omega)]; exact s7, by rw [ja_up_j (by omega)]; exact s8⟩
  · exact ⟨by rw [ja_up_j (by omega)]; exact s0, by rw [ja_up_j (by omega)]; exact s1, by rw [ja_up_j (by omega)]; exact s2, by rw [ja_up_j (by omega)]; exact s3, by rw [ja_up_j (by omega)]; exact s4, by rw [ja_up_j (by omega)]; exact s5, by rw [ja_up_s]; exact hz, by rw [ja_up_j (by omega)]; exact s7, by rw [ja_up_j (by omega)]; exact s8⟩
  · exact ⟨by rw [ja_up_j (by omega)]; exact s0, by rw [ja_up_j (by omega)]; exact s1, by rw [ja_up_j (by omega)]; exact s2, by rw [ja_up_j (by omega)]; exact s3, by rw [ja_up_j (by omega)]; exact s4, by rw [ja_up_j (by omega)]; exact s5, by rw [ja_up_j (by omega)]; exact s6, by rw [ja_up_s]; exact hz, by rw [ja_up_j (by omega)]; exact s8⟩
  · exact ⟨by rw [ja_up_j (by omega)]; exact s0, by rw [ja_up_j (by omega)]; exact s1, by rw [ja_up_j (by omega)]; exact s2, by rw [ja_up_j (by omega)]; exact s3, by rw [ja_up_j (by omega)]; exact s4, by rw [ja_up_j (by omega)]; exact s5, by rw [ja_up_j (by omega)]; exact s6, by rw [ja_up_j (by omega)]; exact s7, by rw [ja_up_s]; exact hz⟩
/-- a setting, set where it may be -/
theorem RO_up {mem : ja_M} {b j : Nat} {t z : Int} (h : ja_RO mem b t) (hz : N_in j z) (hj : j < 9) (hv : (j ≠ 3 ∧ j ≠ 4) ∨ mem (b + 15) 4 ≤ 0) : ja_RO (ja_up mem (b + 1) j z) b t := RO_set h (fun q hq => ja_up_row hq) (SO_up h.1 hz hj) (by
  rcases hv with ⟨h3, h4⟩ | hv
  · exact Or.inl ⟨ja_up_j (by omega), ja_up_j (by omega)⟩
  · exact Or.inr hv)
theorem N_O_up {v : Nat → Int} {j : Nat} {t z : Int} (h : N_O v t) (hz : N_in j z) (hj : j < 9) (hv : (j ≠ 3 ∧ j ≠ 4) ∨ v 25 ≤ 0) : N_O (ja_rs v j z) t := by
  obtain ⟨hR, h1, hP⟩ := h
  refine ⟨hR.rs hz, ?_, ?_⟩
  · rw [ja_rs_n (show (9 : Nat) ≠ j by omega), ja_rs_n (show (10 : Nat) ≠ j by omega), ja_rs_n (show (11 : Nat) ≠ j by omega), ja_rs_n (show (12 : Nat) ≠ j by omega), ja_rs_n (show (13 : Nat) ≠ j by omega), ja_rs_n (show (14 : Nat) ≠ j by omega), ja_rs_n (show (21 : Nat) ≠ j by omega), ja_rs_n (show (22 : Nat) ≠ j by omega), ja_rs_n (show (23 : Nat) ≠ j by omega)]
    exact h1
  · intro i i0 il
    rw [ja_rs_n (by omega)] at il
    rcases hv with ⟨h3, h4⟩ | hv
    · have hp := hP i i0 il
      rw [ja_rs_n (by omega), ja_rs_n (by omega), ja_rs_n (by omega)]
      have e5 : ∀ r k c, N_hP (ja_rs v j z) r k c = N_hP v r k c := fun r k c => by simp only [N_hP, N_hB, N_ar, ja_rs_n (show (3 : Nat) ≠ j by omega), ja_rs_n (show (4 : Nat) ≠ j by omega)]
      unfold N_pe
      rw [e5]
      exact hp
    · omega
