theorem goF_cg {x y : Prop} [Decidable x] [Decidable y] {q : PS} (h : x ↔ y) : goF x q = goF y q := by
  unfold goF
  by_cases z : y
  · by_cases b : q.2.2.2 = true
    · rw [if_pos (Or.inl b), if_pos (Or.inl b)]
    · rw [if_neg (fun w => by rcases w with w | w; exact b w; exact w (h.mpr z)), if_neg (fun w => by rcases w with w | w; exact b w; exact w z)]
  · rw [if_pos (Or.inr (fun w => z (h.mp w))), if_pos (Or.inr z)]
theorem go_cs {x : Prop} [Decidable x] {q : PS} : (goF x q).2.1 = q.2.1 := by
  unfold goF
  split <;> rfl
abbrev NN (f o nn : Nat) : Prop := 16 < f + o + nn ∧ o ≤ 8 ∧ nn ≤ 8
theorem b01_iff {C : Prop} [Decidable C] : ¬ (if C then (1 : Int32) else 0) = 0 ↔ C := by
  by_cases h : C
  · rw [if_pos h]; exact ⟨fun _ => h, fun _ => by decide⟩
  · rw [if_neg h]; exact ⟨fun z => absurd rfl z, fun z => absurd z h⟩
