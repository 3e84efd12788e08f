theorem tg1 (x y : Int32) (h : 0 ≤ x) (h2 : x ≤ 99) (h3 : 0 ≤ y) (h4 : y ≤ 99) : 0 ≤ x + y ∧ x + y ≤ 198 := by grind
theorem tg2 (x y : Int32) (h : 0 ≤ x) (h2 : x ≤ 99) (h3 : 0 ≤ y) (h4 : y ≤ 99) : (if x - y < 0 then 0 else if x - y > 99 then 99 else x - y) ≤ 99 := by grind
theorem tg3 (x y : Int32) (h : 0 ≤ x) (h2 : x ≤ 99) (h3 : 0 ≤ y) (h4 : y ≤ 99) : (if 0 ≤ x - y then x - y else 0 - (x - y)) = (if x - y < 0 then -(x - y) else x - y) := by grind
theorem tg4 (x : Int32) (h : 0 ≤ x) (h2 : x ≤ 99) : x / 2 ≤ 49 := by grind
theorem tg5 (x : Int32) (h : 0 ≤ x) (h2 : x ≤ 99) : x / 2 ≤ 49 := by lia
theorem tg6 (h : Nat) (x : Int32) (hx : x = nI h) (hh : h < 10) : (10 + 5 * x + 3) = nI (10 + 5 * h + 3) := by grind [nI]
theorem tg7 (x y : Int32) (h : 0 ≤ x) (h2 : x ≤ 99) (h3 : y = x + 1) : y.toInt = x.toInt + 1 := by grind
theorem tg8 (x y : Int32) (h : ¬ x < y) : y ≤ x := by grind
theorem tg9 (x y : Int32) (h : 0 ≤ x.toInt) (h2 : x.toInt ≤ 99) (h3 : y = x + 1) : y.toInt = x.toInt + 1 := by lia
