/-! the class's own object, and what its small rows say -/
def cF (la t t3 t2 : Nat) (ch : Nat → Nat) (kp tp wt : Int32) : List Value := [.ref la, .ref t, .ref t3, .ref t2, .int kp, .ref (ch 5), .ref (ch 6), .int tp, .ref (ch 8), .ref (ch 9), .ref (ch 10), .int wt, .ref (ch 12)]
theorem mr_eq {w : Nat} (h : w ≤ 2) : mrF w = if nI w = 2 then 100 else 99 := by
  rcases (show w = 0 ∨ w = 1 ∨ w = 2 by omega) with rfl | rfl | rfl <;> rfl
theorem rul_upd (d : DD) {w : Nat} (h : w ≤ 2) (v : Int32) : ∀ j, j < 3 → upd (rulF d) w v j = rulF (upd d (2 + w) v) j := by
  intro j hj
  rcases (show j = 0 ∨ j = 1 ∨ j = 2 by omega) with rfl | rfl | rfl <;> rcases (show w = 0 ∨ w = 1 ∨ w = 2 by omega) with rfl | rfl | rfl <;> rfl
theorem col_ru (d : DD) (k w : Nat) (v : Int32) (h : k < 10) : col (upd d k v) w = col d w := col_lo d k w v h
theorem min_night {x hi : Int32} (h : 1 ≤ x) : (if hi < x then hi else x) = held x 0 hi := by unfold held; rw [if_neg (show ¬ x < 0 by grind)]
