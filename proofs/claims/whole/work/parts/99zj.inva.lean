theorem okSg_of {tc : DD} {cs : List Int32} {ky : Int32} (hc : CR tc cs) (hg : ∀ x ∈ cs, cOK ky x) : okSg cs.length tc := by
  intro k hk h1 h2
  have e := hc k _ (List.getElem?_eq_getElem hk)
  have h := hg _ (List.getElem_mem hk)
  rw [← e] at h
  rcases h with z | ⟨j, hj, z⟩ | z | ⟨s, hs, z⟩
  · exact absurd (show tc k < 20000 by grind) h1
  · exfalso
    apply h1
    rw [z]
    have hj4 : j < 4 := by split at hj <;> omega
    rcases (show j = 0 ∨ j = 1 ∨ j = 2 ∨ j = 3 by omega) with y | y | y | y <;> subst y <;> decide
  · exact absurd z h2
  · rw [z, show (20000 : Int32) + s - 20000 = s by grind]
    exact hs
