/-! what a step leaves -/
def okM (q : MS) (k : Nat) : Prop := q.2.1.length + q.2.2.1.length ≤ k ∧ nOK q.2.2.1 q.2.2.2.2.1 ∧ q.2.2.2.2.1 ≤ 8 ∧ q.2.2.2.1 ≤ 8
theorem closeN_nle : ∀ S O n, (closeN O S n).2.2 ≤ n
  | [], O, n => Nat.le_refl _
  | a :: S, O, n => by
    unfold closeN
    split
    · have := closeN_nle S (O ++ [20033]) (n - 1); omega
    · exact Nat.le_refl _
theorem nOK_tail {S : List Int32} {n : Nat} (h : nOK S n) : nOK S.tail n := by
  cases S with
  | nil => exact h
  | cons a S => unfold nOK cntN at h; show cntN S ≤ n; omega
theorem okM_val {q : MS} {k : Nat} {c : Int32} (h : okM q k) : okM (valM c q) (k + 1) := by
  obtain ⟨h1, h2, h3, h4⟩ := h
  have l := closeN_len q.2.2.1 (q.2.1 ++ [c]) q.2.2.2.2.1
  rw [List.length_append] at l
  refine ⟨?_, closeN_n _ _ _ h2, Nat.le_trans (closeN_nle _ _ _) h3, h4⟩
  show (closeN (q.2.1 ++ [c]) q.2.2.1 q.2.2.2.2.1).1.length + (closeN (q.2.1 ++ [c]) q.2.2.1 q.2.2.2.2.1).2.1.length ≤ k + 1
  rw [l]
  show q.2.1.length + 1 + q.2.2.1.length ≤ k + 1
  omega
theorem okM_brk {q r : MS} {k : Nat} (h : okM q k) (hb : brkM q = some r) : okM r k := by
  obtain ⟨h1, h2, h3, h4⟩ := h
  unfold brkM at hb
  by_cases z : q.2.2.2.1 = 0
  · rw [if_pos z] at hb; cases hb
  · rw [if_neg z] at hb
    cases hb
    have l1 := closeD_len (r := 1) q.2.2.1 q.2.1
    have l2 := closeN_len (closeD 1 q.2.1 q.2.2.1).2.tail (closeD 1 q.2.1 q.2.2.1).1 q.2.2.2.2.1
    have l3 : (closeD 1 q.2.1 q.2.2.1).2.tail.length ≤ (closeD 1 q.2.1 q.2.2.1).2.length := by rw [List.length_tail]; omega
    refine ⟨by show (closeN (closeD 1 q.2.1 q.2.2.1).1 (closeD 1 q.2.1 q.2.2.1).2.tail q.2.2.2.2.1).1.length + (closeN (closeD 1 q.2.1 q.2.2.1).1 (closeD 1 q.2.1 q.2.2.1).2.tail q.2.2.2.2.1).2.1.length ≤ k; rw [l2]; omega, closeN_n _ _ _ (nOK_tail (closeD_n (by omega) _ _ _ h2)), Nat.le_trans (closeN_nle _ _ _) h3, by show q.2.2.2.1 - 1 ≤ 8; omega⟩
theorem okM_sgn {q r : MS} {k : Nat} {c : Int32} (h : okM q k) (hb : sgnM c q = some r) : okM r (k + 1) := by
  unfold sgnM at hb
  by_cases z : c = 41
  · rw [if_pos z] at hb
    obtain ⟨h1, h2⟩ := okM_brk h hb
    exact ⟨by omega, h2⟩
  · rw [if_neg z] at hb
    by_cases y : rk c = 0
    · rw [if_pos y] at hb; cases hb
    · rw [if_neg y] at hb
      obtain ⟨h1, h2, h3, h4⟩ := h
      by_cases x : rk c = 3 ∧ tpR (closeD (rk c + 1) q.2.1 q.2.2.1).2 = 3
      · rw [if_pos x] at hb; cases hb
      · rw [if_neg x] at hb
        cases hb
        have l1 := closeD_len (r := rk c + 1) q.2.2.1 q.2.1
        have l2 := closeD_len (r := rk c) (closeD (rk c + 1) q.2.1 q.2.2.1).2 (closeD (rk c + 1) q.2.1 q.2.2.1).1
        have n1 := closeD_n (r := rk c + 1) (by omega) q.2.2.1 q.2.1 q.2.2.2.2.1 h2
        have n2 := closeD_n (r := rk c) (by omega) (closeD (rk c + 1) q.2.1 q.2.2.1).2 (closeD (rk c + 1) q.2.1 q.2.2.1).1 q.2.2.2.2.1 n1
        have hc : ¬ c = 33 := fun e => y (by rw [e]; decide)
        refine ⟨?_, ?_, h3, h4⟩
        · show (closeD (rk c) (closeD (rk c + 1) q.2.1 q.2.2.1).1 (closeD (rk c + 1) q.2.1 q.2.2.1).2).1.length + (c :: (closeD (rk c) (closeD (rk c + 1) q.2.1 q.2.2.1).1 (closeD (rk c + 1) q.2.1 q.2.2.1).2).2).length ≤ k + 1
          rw [List.length_cons]
          omega
        · show cntN (c :: _) ≤ _
          unfold cntN
          rw [if_neg hc]
          exact n2
theorem okM_pce {tf : DD} {ky : Int32} {b e : Nat} {q r : MS} {k : Nat} (h : okM q k) (hb : pceM tf ky b e q = some r) : okM r (k + 1) := by
  unfold pceM at hb
  by_cases z : isLt (tf b)
  · rw [if_pos z] at hb
    by_cases y : e - b = 1 ∧ 0 ≤ nmC ky (tf b)
    · rw [if_pos y] at hb; cases hb; exact okM_val h
    · rw [if_neg y] at hb; cases hb
  · rw [if_neg z] at hb
    by_cases y : isDg (tf b)
    · rw [if_pos y] at hb
      by_cases x : e - b ≤ 4
      · rw [if_pos x] at hb; cases hb; exact okM_val h
      · rw [if_neg x] at hb; cases hb
    · rw [if_neg y] at hb
      obtain ⟨h1, h2, h3, h4⟩ := h
      by_cases x : tf b = 40 ∧ q.2.2.2.1 < 8
      · rw [if_pos x] at hb
        cases hb
        refine ⟨by show q.2.1.length + (q.2.2.1.length + 1) ≤ k + 1; omega, ?_, h3, by show q.2.2.2.1 + 1 ≤ 8; omega⟩
        show cntN (40 :: q.2.2.1) ≤ _
        unfold cntN
        rw [if_neg (by decide)]; exact h2
      · rw [if_neg x] at hb
        by_cases w : tf b = 33 ∧ q.2.2.2.2.1 < 8
        · rw [if_pos w] at hb
          cases hb
          refine ⟨by show q.2.1.length + (q.2.2.1.length + 1) ≤ k + 1; omega, ?_, by show q.2.2.2.2.1 + 1 ≤ 8; omega, h4⟩
          show cntN (33 :: q.2.2.1) ≤ q.2.2.2.2.1 + 1
          unfold cntN
          rw [if_pos rfl]
          have h5 : cntN q.2.2.1 ≤ q.2.2.2.2.1 := h2
          omega
        · rw [if_neg w] at hb; cases hb
theorem okM_stp {tf : DD} {tp : Nat} {ky : Int32} {j : Nat} {q r : MS} {k : Nat} (h : okM q k) (hb : stpM tf tp ky j q = some r) : okM r (k + 1) := by
  unfold stpM at hb
  by_cases z : tkA tf tp j = 0 ∨ tkA tf tp j = 4
  · rw [if_pos z] at hb; cases hb
  · rw [if_neg z] at hb
    by_cases y : q.1 = true
    · rw [if_pos y] at hb; exact okM_sgn h hb
    · rw [if_neg y] at hb; exact okM_pce h hb
