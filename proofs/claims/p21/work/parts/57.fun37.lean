-- BITS OF WORDS
theorem J_b_and (x y : Int64) (c : Nat) : J_b (x &&& y) c = (J_b x c && J_b y c) := BitVec.getLsbD_and
theorem J_b_or (x y : Int64) (c : Nat) : J_b (x ||| y) c = (J_b x c || J_b y c) := BitVec.getLsbD_or
theorem J_b_not (x : Int64) (c : Nat) : J_b (x ^^^ (-1)) c = (decide (c < 64) && !J_b x c) := by
  rw [Int64.xor_neg_one]
  exact BitVec.getLsbD_not
theorem J_b_ext {x y : Int64} (h : ∀ c, c < 64 → J_b x c = J_b y c) : x = y := Int64.toBitVec.inj (BitVec.eq_of_getLsbD_eq h)
theorem J_b_ge {x : Int64} {c : Nat} (h : 64 ≤ c) : J_b x c = false := BitVec.getLsbD_of_ge _ _ h
theorem J_b_zero (c : Nat) : J_b 0 c = false := BitVec.getLsbD_zero
theorem J_b_one (c : Nat) : J_b 1 c = decide (c = 0) := by
  show (1#64).getLsbD c = _
  rw [BitVec.getLsbD_one]
  rfl
theorem J_b_m1 (c : Nat) : J_b (-1) c = decide (c < 64) := by
  have e : (-1 : Int64).toBitVec = BitVec.allOnes 64 := by decide +kernel
  show (-1 : Int64).toBitVec.getLsbD c = _
  rw [e, BitVec.getLsbD_allOnes]
theorem J_z64 : ∀ k : Fin 64, (((ja_I (k.val : Int)).toInt64 &&& 63).toBitVec.smod 64).toNat = k.val := by decide +kernel
theorem J_b_shl (a : Int64) {z : Int} {k : Nat} (hz : z = (k : Int)) (hk : k < 64) (c : Nat) : J_b (ja_shl a z) c = (decide (c < 64) && !decide (c < k) && J_b a (c - k)) := by
  subst hz
  have h : (((ja_I (k : Int)).toInt64 &&& 63).toBitVec.smod 64).toNat = k := J_z64 ⟨k, hk⟩
  have e : (ja_shl a (k : Int)).toBitVec = a.toBitVec <<< (((ja_I (k : Int)).toInt64 &&& 63).toBitVec.smod 64) := rfl
  show (ja_shl a (k : Int)).toBitVec.getLsbD c = _
  rw [e, BitVec.getLsbD_shiftLeft', h]
theorem J_b_shr (a : Int64) {z : Int} {k : Nat} (hz : z = (k : Int)) (hk : k < 64) : ja_shr a z &&& 1 = 0 ↔ J_b a k = false := by
  subst hz
  have h : (((ja_I (k : Int)).toInt64 &&& 63).toBitVec.smod 64).toNat = k := J_z64 ⟨k, hk⟩
  have e : (ja_shr a (k : Int)).toBitVec = a.toBitVec.sshiftRight' (((ja_I (k : Int)).toInt64 &&& 63).toBitVec.smod 64) := rfl
  have e0 : J_b (ja_shr a (k : Int)) 0 = J_b a k := by
    show (ja_shr a (k : Int)).toBitVec.getLsbD 0 = _
    rw [e, BitVec.getLsbD_sshiftRight', h, Nat.add_zero, if_pos hk]
    rfl
  constructor
  · intro q
    have q2 : J_b (ja_shr a (k : Int) &&& 1) 0 = J_b 0 0 := congrArg (fun t => J_b t 0) q
    rw [J_b_and, e0, J_b_one, J_b_zero] at q2
    cases hb : J_b a k with
    | false => rfl
    | true =>
      rw [hb] at q2
      exact absurd q2 (by decide)
  · intro q
    refine J_b_ext (fun c hc => ?_)
    rw [J_b_and, J_b_one, J_b_zero]
    by_cases h0 : c = 0
    · subst h0
      rw [e0, q]
      rfl
    · rw [decide_eq_false h0, Bool.and_false]
theorem J_dm : ∀ k c : Fin 64, J_b (ja_shl 1 (k.val : Int) - 1) c.val = decide (c.val < k.val) := by decide +kernel
theorem J_b_mask {z : Int} {k : Nat} (hz : z = (k : Int)) (hk : k < 64) (c : Nat) : J_b (ja_shl 1 z - 1) c = decide (c < k) := by
  subst hz
  by_cases hc : c < 64
  · exact J_dm ⟨k, hk⟩ ⟨c, hc⟩
  · rw [J_b_ge (by omega), decide_eq_false (by omega)]
-- the cells of a line
theorem F_lbc_b {cols i : Int} (hc : 2 ≤ cols ∧ cols ≤ 6) (hi : 0 ≤ i ∧ i < cols) : ∀ (k : Nat), k ≤ 6 → ∀ c : Nat, J_b (F_lbc cols i k) c = true ↔ ∃ j : Nat, j < k ∧ (c : Int) = (j : Int) * cols + i
  | 0, _, c => by
    simp only [F_lbc]
    rw [J_b_zero]
    constructor
    · intro q
      cases q
    · rintro ⟨j, hj, -⟩
      omega
  | k + 1, hk, c => by
    have ih := F_lbc_b hc hi k (by omega) c
    have hb : 0 ≤ (k : Int) * cols + i ∧ (k : Int) * cols + i < 64 := by
      rcases (show cols = 2 ∨ cols = 3 ∨ cols = 4 ∨ cols = 5 ∨ cols = 6 by omega) with rfl | rfl | rfl | rfl | rfl <;> omega
    obtain ⟨e, he⟩ : ∃ e : Nat, (k : Int) * cols + i = (e : Int) := ⟨((k : Int) * cols + i).toNat, by omega⟩
    simp only [F_lbc]
    rw [J_b_or, J_b_shl 1 he (by omega), J_b_one]
    constructor
    · intro q
      rcases (Bool.or_eq_true _ _).mp q with q | q
      · obtain ⟨j, h1, h2⟩ := ih.mp q
        exact ⟨j, by omega, h2⟩
      · simp only [Bool.and_eq_true, decide_eq_true_eq, Bool.not_eq_true', decide_eq_false_iff_not] at q
        exact ⟨k, by omega, by rw [he]; omega⟩
    · rintro ⟨j, h1, h2⟩
      refine (Bool.or_eq_true _ _).mpr ?_
      by_cases hj : j = k
      · subst hj
        right
        simp only [Bool.and_eq_true, decide_eq_true_eq, Bool.not_eq_true', decide_eq_false_iff_not]
        rw [he] at h2
        omega
      · exact Or.inl (ih.mpr ⟨j, by omega, h2⟩)
/-- cell j of line i -/
def L_g (C r i j : Int) : Int := if r = 0 then j * C + i else i * C + j
theorem L_g_in {C r i j R : Int} (hC : 2 ≤ C ∧ C ≤ 6) (hR : 2 ≤ R ∧ R ≤ 6) (hi : 0 ≤ i ∧ i < if r = 0 then C else R) (hj : 0 ≤ j ∧ j < if r = 0 then R else C) : 0 ≤ L_g C r i j ∧ L_g C r i j < C * R ∧ C * R ≤ 36 := by
  unfold L_g
  by_cases h : r = 0
  · rw [if_pos h] at hi hj ⊢
    rcases (show C = 2 ∨ C = 3 ∨ C = 4 ∨ C = 5 ∨ C = 6 by omega) with rfl | rfl | rfl | rfl | rfl <;> omega
  · rw [if_neg h] at hi hj ⊢
    rcases (show C = 2 ∨ C = 3 ∨ C = 4 ∨ C = 5 ∨ C = 6 by omega) with rfl | rfl | rfl | rfl | rfl <;> omega
theorem L_g_inj {C r i j j' : Int} (hC : 2 ≤ C ∧ C ≤ 6) (h : L_g C r i j = L_g C r i j') : j = j' := by
  unfold L_g at h
  by_cases h0 : r = 0
  · rw [if_pos h0, if_pos h0] at h
    rcases (show C = 2 ∨ C = 3 ∨ C = 4 ∨ C = 5 ∨ C = 6 by omega) with rfl | rfl | rfl | rfl | rfl <;> omega
  · rw [if_neg h0, if_neg h0] at h
    omega
/-- the number of a line's cells -/
abbrev F_cs (mem : ja_M) (s : Nat) (r : Int) : Int := if r = 0 then mem s 4 else mem s 3
abbrev F_cn (mem : ja_M) (s : Nat) (r : Int) : Int := if r = 0 then mem s 3 else mem s 4
theorem F_lb_b {mem : ja_M} {s : Nat} {r i : Int} (hS : ja_SO mem s) (hi : 0 ≤ i ∧ i < F_cn mem s r) (c : Nat) : J_b (F_lb mem s r i) c = true ↔ ∃ j : Nat, (j : Int) < F_cs mem s r ∧ (c : Int) = L_g (mem s 3) r i j := by
  obtain ⟨-, -, -, h3, h4, -⟩ := hS
  unfold F_lb F_cs L_g
  unfold F_cn at hi
  by_cases h0 : r = 0
  · rw [if_pos h0] at hi
    rw [if_pos h0, F_lbc_b h3 hi _ (by omega)]
    constructor
    · rintro ⟨j, a, b⟩
      exact ⟨j, by rw [if_pos h0]; omega, by rw [if_pos h0]; exact b⟩
    · rintro ⟨j, a, b⟩
      rw [if_pos h0] at a b
      exact ⟨j, by omega, b⟩
  · rw [if_neg h0] at hi
    obtain ⟨C, hC⟩ : ∃ C : Nat, mem s 3 = (C : Int) := ⟨(mem s 3).toNat, by omega⟩
    have hb : 0 ≤ i * mem s 3 ∧ i * mem s 3 ≤ 30 := by
      rcases (show mem s 3 = 2 ∨ mem s 3 = 3 ∨ mem s 3 = 4 ∨ mem s 3 = 5 ∨ mem s 3 = 6 by omega) with h | h | h | h | h <;> rw [h] <;> omega
    obtain ⟨e, he⟩ : ∃ e : Nat, i * mem s 3 = (e : Int) := ⟨(i * mem s 3).toNat, by omega⟩
    rw [if_neg h0, J_b_shl _ he (by omega), J_b_mask hC (by omega)]
    simp only [Bool.and_eq_true, decide_eq_true_eq, Bool.not_eq_true', decide_eq_false_iff_not]
    constructor
    · rintro ⟨⟨a1, a2⟩, a3⟩
      exact ⟨c - e, by rw [if_neg h0]; omega, by rw [if_neg h0, he]; omega⟩
    · rintro ⟨j, a, b⟩
      rw [if_neg h0] at a b
      rw [he] at b
      omega
-- packets' words
abbrev J_c (p : Int) (e : Nat) : Bool := (ja_I p).toBitVec.getLsbD e
/-- the place of a packet in its block's word -/
def F_pe (r i : Int) : Int := if r = 0 then 6 + i else i
theorem J_dp : ∀ e c : Fin 32, (ja_I 1 <<< (ja_I (e.val : Int) &&& 31)).toBitVec.getLsbD c.val = decide (c.val = e.val) := by decide +kernel
theorem J_c_pb {r i : Int} {e : Nat} (he : F_pe r i = (e : Int)) (h : e < 32) (c : Nat) : J_c (F_pb r i) c = decide (c = e) := by
  have e1 : ja_I (F_pb r i) = ja_I 1 <<< (ja_I (e : Int) &&& 31) := by
    rw [← he]
    exact Int32.ofInt_toInt _
  show (ja_I (F_pb r i)).toBitVec.getLsbD c = _
  rw [e1]
  by_cases hc : c < 32
  · exact J_dp ⟨e, h⟩ ⟨c, hc⟩
  · rw [BitVec.getLsbD_of_ge _ _ (by omega), decide_eq_false (by omega)]
theorem F_and_b {p r i : Int} {e : Nat} (he : F_pe r i = (e : Int)) (h : e < 32) : F_and p (F_pb r i) = 0 ↔ J_c p e = false := by
  have hb : ∀ c, (ja_I p &&& ja_I (F_pb r i)).toBitVec.getLsbD c = (J_c p c && decide (c = e)) := fun c => by
    rw [← J_c_pb he h c]
    exact BitVec.getLsbD_and
  have h0 : F_and p (F_pb r i) = 0 ↔ ja_I p &&& ja_I (F_pb r i) = 0 := by
    show (ja_I p &&& ja_I (F_pb r i)).toInt = 0 ↔ _
    constructor
    · intro q
      exact Int32.toInt.inj (q.trans rfl)
    · intro q
      rw [q]
      rfl
  rw [h0]
  constructor
  · intro q
    have q2 := hb e
    rw [q, decide_eq_true rfl, Bool.and_true] at q2
    rw [← q2]
    exact BitVec.getLsbD_zero
  · intro q
    refine Int32.toBitVec.inj (BitVec.eq_of_getLsbD_eq (fun c _ => ?_))
    rw [hb]
    refine Eq.trans ?_ (BitVec.getLsbD_zero (i := c)).symm
    by_cases hc : c = e
    · subst hc
      rw [q]
      rfl
    · rw [decide_eq_false hc, Bool.and_false]
theorem F_or_b {p r i : Int} {e : Nat} (he : F_pe r i = (e : Int)) (h : e < 32) (c : Nat) : J_c (F_or p (F_pb r i)) c = (J_c p c || decide (c = e)) := by
  have e1 : ja_I (F_or p (F_pb r i)) = ja_I p ||| ja_I (F_pb r i) := Int32.ofInt_toInt _
  show (ja_I (F_or p (F_pb r i))).toBitVec.getLsbD c = _
  rw [e1, ← J_c_pb he h c]
  exact BitVec.getLsbD_or
theorem F_pe_in {C R r i : Int} (hC : 2 ≤ C ∧ C ≤ 6) (hR : 2 ≤ R ∧ R ≤ 6) (hi : 0 ≤ i ∧ i < if r = 0 then C else R) : 0 ≤ F_pe r i ∧ F_pe r i < 12 ∧ ((r = 0 → 6 ≤ F_pe r i) ∧ (¬ r = 0 → F_pe r i < 6)) := by
  unfold F_pe
  by_cases h : r = 0
  · rw [if_pos h] at hi ⊢
    omega
  · rw [if_neg h] at hi ⊢
    omega
theorem ja_L_toInt (x : Int64) : ja_L x.toInt = x := Int64.ofInt_toInt x
