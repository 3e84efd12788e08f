/-! what behind may be asked; one more night -/
theorem nights_1s {ft : TXC} {d : DD} {k : Nat} : nightsF ft 1 (nightsF ft k d) = nightsF ft (k + 1) d := by
  generalize e : nightsF ft k d = y
  show nightF ft y = nightF ft (nightsF ft k d)
  rw [e]
theorem beh_c {d : DD} {w : Int32} {n : Nat} (hn : d 0 = nI n) (hn10 : n ≤ 10) (h0 : ¬ w < 0) (h1 : w < 5 + d 0) : (0 ≤ w ∧ w ≤ 4) ∨ isH d (w - 5) := by
  obtain ⟨a, ha, rfl⟩ := nI_of h0
  rw [hn, show (5 : Int32) + nI n = nI (5 + n) from nI_add 5 n, nI_ltI ha (by omega)] at h1
  by_cases q : a ≤ 4
  · exact Or.inl ⟨nI_pos' ha, nI_le (b := 4) q (by omega)⟩
  · right
    rw [show nI a - 5 = nI (a - 5) from pk_sub (b := 5) (by omega)]
    exact isH_of hn hn10 (by omega)
theorem beh_n {d : DD} {w : Int32} {n : Nat} (hn : d 0 = nI n) (hn10 : n ≤ 10) (h : (0 ≤ w ∧ w ≤ 4) ∨ isH d (w - 5)) : ¬ w < 0 ∧ w < 5 + d 0 := by
  rw [hn, show (5 : Int32) + nI n = nI (5 + n) from nI_add 5 n]
  rcases h with h | h
  · obtain ⟨a, ha, rfl⟩ := rng_nat (m := 4) (by omega) h.1 h.2
    exact ⟨nI_pos (by omega), by rw [nI_ltI (by omega) (by omega)]; omega⟩
  · obtain ⟨j, hj, e, -⟩ := isH_nat hn hn10 h
    have e2 : w = nI (j + 5) := by rw [← nI_add, ← e]; exact (Int32.sub_add_cancel w 5).symm
    rw [e2]
    exact ⟨nI_pos (by omega), by rw [nI_ltI (by omega) (by omega)]; omega⟩
theorem beh_r {d : DD} {w : Int32} {n : Nat} (hn : d 0 = nI n) (hn10 : n ≤ 10) (h : (0 ≤ w ∧ w ≤ 4) ∨ isH d (w - 5)) (h5 : 5 ≤ w) : isH d (w - 5) := by
  rcases h with h | h
  · exact absurd h.2 (by grind)
  · exact h
theorem lt5_ne {w : Int32} (h : w < 5) : ¬ w = 5 ∧ ¬ w = 6 := by constructor <;> intro e <;> rw [e] at h <;> exact absurd h (by decide)
