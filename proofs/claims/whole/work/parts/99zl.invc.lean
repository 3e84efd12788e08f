/-! the class's names of fee and fine against the reference's -/
theorem estep_map {f h : Int32 → Int32} {c c' : Int32} {st : List Int32} (hq : (c' = c ∧ (¬ c < 10000 → c < 20000 → f c = h c)) ∨ (¬ c < 10000 ∧ c < 20000 ∧ ¬ c' < 10000 ∧ c' < 20000 ∧ f c = h c')) : estep h c' st = estep f c st := by
  rcases hq with ⟨e, q⟩ | ⟨a, b, a', b', q⟩
  · subst e
    unfold estep
    by_cases h1 : c' < 10000
    · rw [if_pos h1, if_pos h1]
    · rw [if_neg h1, if_neg h1]
      by_cases h2 : c' < 20000
      · rw [if_pos h2, if_pos h2, q h1 h2]
      · rw [if_neg h2, if_neg h2]
  · unfold estep
    rw [if_neg a, if_neg a', if_pos b, if_pos b', q]
theorem evst_s {f : Int32 → Int32} {tc : DD} {k : Nat} : evst f tc (k + 1) = estep f (tc k) (evst f tc k) := rfl
theorem evst_0 {f : Int32 → Int32} {tc : DD} : evst f tc 0 = [] := rfl
abbrev mapC (f h : Int32 → Int32) (c c' : Int32) : Prop := (c' = c ∧ (¬ c < 10000 → c < 20000 → f c = h c)) ∨ (¬ c < 10000 ∧ c < 20000 ∧ ¬ c' < 10000 ∧ c' < 20000 ∧ f c = h c')
theorem evst_map {f h : Int32 → Int32} {tc tx : DD} (k : Nat) (hk : ∀ i, i < k → mapC f h (tc i) (tx i)) : evst h tx k = evst f tc k := by
  induction k with
  | zero => rw [evst_0, evst_0]
  | succ k ih =>
    have e := ih (fun i hi => hk i (Nat.lt_succ_of_lt hi))
    rw [evst_s, evst_s, e]
    exact estep_map (f := f) (h := h) (c := tc k) (c' := tx k) (st := evst f tc k) (hk k (Nat.lt_succ_self k))
