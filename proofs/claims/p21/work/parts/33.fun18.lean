theorem N_q.ol {v w : Nat → Int} {b : Int} (h : N_q v w) : N_ol w b = N_ol v b := by
  unfold N_ol
  rw [h 12 (by omega) (by omega), h _ (by omega) (by omega)]
