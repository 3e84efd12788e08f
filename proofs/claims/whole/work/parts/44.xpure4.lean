/-! rules and lots -/
theorem rul_at (d : DD) {w : Nat} (h : w ≤ 2) : rulF d w = d (2 + w) := by
  rcases (show w = 0 ∨ w = 1 ∨ w = 2 by omega) with rfl | rfl | rfl <;> rfl
theorem tw_rule {d : DD} {w : Nat} {v : Int32} (h : w ≤ 2) : TwEq (upd d (2 + w) v) (d 0) (d 9) (d 5) (d 6) (d 7) (d 1) (d 8) (col d 0) (col d 1) (col d 2) (col d 3) (col d 4) (rulF (upd d (2 + w) v)) :=
  ⟨upd_ne (by omega), upd_ne (by omega), upd_ne (by omega), upd_ne (by omega), upd_ne (by omega), upd_ne (by omega), upd_ne (by omega), col_lo _ _ _ _ (by omega), col_lo _ _ _ _ (by omega), col_lo _ _ _ _ (by omega), col_lo _ _ _ _ (by omega), col_lo _ _ _ _ (by omega), rfl⟩
theorem deal_le {d : DD} {n : Nat} {x : Int32} (hn : d 0 = nI n) (hn10 : n ≤ 10) (h : 1 ≤ x ∧ x ≤ 10) : (if (10 : Int32) - d 0 < x then (10 : Int32) - d 0 else x) = nI (dealN d x) ∧ n + dealN d x ≤ 10 := by
  obtain ⟨k, hk, e⟩ := rng_nat (x := x) (m := 10) (by omega) (by grind) h.2
  have e2 : (10 : Int32) - d 0 = nI (10 - n) := by rw [hn]; exact pk_sub (a := 10) hn10
  have e3 : dealN d x = min k (10 - n) := by unfold dealN; rw [e, nI_clamp (by omega), nH_of hn hn10]
  rw [e2, e3, e]
  refine ⟨?_, by omega⟩
  by_cases q : nI (10 - n) < nI k
  · rw [if_pos q]; rw [nI_ltI (by omega) (by omega)] at q; rw [Nat.min_eq_right (by omega)]
  · rw [if_neg q]; rw [nI_ltI (by omega) (by omega)] at q; rw [Nat.min_eq_left (by omega)]
