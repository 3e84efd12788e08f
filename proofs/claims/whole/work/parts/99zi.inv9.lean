theorem okC_of {tc : DD} {cs : List Int32} (hc : CR tc cs) (hg : gd cs 0 = some 1) (hl : cs.length ≤ 96) : okC cs.length tc := by
  have hs : ∀ k, k < cs.length → gd (cs[k]! :: cs.drop (k + 1)) (dpt tc k) = some 1 ∧ tc k = cs[k]! := fun k hk => by
    have h1 := gd_dpt hc hg k (by omega)
    rw [List.drop_eq_getElem_cons hk] at h1
    have e : cs[k]! = cs[k] := getElem!_pos cs k hk
    rw [e]
    exact ⟨h1, hc k _ (List.getElem?_eq_getElem hk)⟩
  refine ⟨hl, fun k hk h1 h2 => ?_, fun k hk h1 h2 => ?_, ?_⟩
  · obtain ⟨a, b⟩ := hs k hk
    unfold gd at a
    rw [← b, if_neg h1, if_pos h2] at a
    by_cases h3 : 1 ≤ dpt tc k
    · exact h3
    · rw [if_neg h3] at a; exact absurd a (by simp)
  · obtain ⟨a, b⟩ := hs k hk
    unfold gd at a
    rw [← b, if_neg h1, if_neg h2] at a
    by_cases h3 : 2 ≤ dpt tc k
    · exact h3
    · rw [if_neg h3] at a; exact absurd a (by simp)
  · have h1 := gd_dpt hc hg cs.length (by omega)
    rw [List.drop_length] at h1
    exact Option.some.inj h1
