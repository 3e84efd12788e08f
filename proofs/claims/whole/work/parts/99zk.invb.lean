theorem okNm_of {tc : DD} {cs : List Int32} (hc : CR tc cs) (hg : ∀ x ∈ cs, cOK 0 x) : okNm 4 cs.length tc := by
  intro k hk h1 h2
  have e := hc k _ (List.getElem?_eq_getElem hk)
  have h := hg _ (List.getElem_mem hk)
  rw [← e] at h
  rcases h with z | ⟨j, hj, z⟩ | z | ⟨s, hs, z⟩
  · exact absurd z h1
  · exact ⟨j, hj, z⟩
  · rw [z] at h2; exact absurd h2 (by decide)
  · exfalso
    rw [z] at h2
    rcases hs with y | y | y | y | y | y | y | y | y <;> rw [y] at h2 <;> exact absurd h2 (by decide)
