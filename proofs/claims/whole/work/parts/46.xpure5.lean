/-! the terrace as a whole; first k at which -/
theorem terr_read {d : DD} {w : Int32} (h5 : ¬ w = 5) (h6 : ¬ w = 6) : readingF d w = R_terr d w := by unfold R_terr readingF; rw [if_neg h5, if_neg h6]
theorem terr_bad {d : DD} {w : Int32} (h : w < 0 ∨ ¬ w ≤ 6) : -1000000001 = R_terr d w := by
  unfold R_terr
  rw [if_neg (by grind), if_neg (by grind), if_neg (by grind), if_neg (by grind), if_neg (by grind), if_neg (by grind), if_neg (by grind)]
theorem lst_step {p : Nat → Prop} [DecidablePred p] {N k : Nat} (hk : k < N) (h : ¬ p k) : lst p (N - k) k = lst p (N - (k + 1)) (k + 1) := by
  rw [show N - k = (N - (k + 1)) + 1 by omega]
  show (if p k then k else lst p (N - (k + 1)) (k + 1)) = _
  rw [if_neg h]
theorem lst_stop {p : Nat → Prop} [DecidablePred p] {N k : Nat} (hk : k < N) (h : p k) : lst p (N - k) k = k := by
  rw [show N - k = (N - (k + 1)) + 1 by omega]
  show (if p k then k else lst p (N - (k + 1)) (k + 1)) = _
  rw [if_pos h]
theorem lst_end {p : Nat → Prop} [DecidablePred p] {N k : Nat} (hk : ¬ k < N) : lst p (N - k) k = k := by
  rw [show N - k = 0 by omega]; rfl
