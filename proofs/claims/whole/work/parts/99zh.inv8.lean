/-! texts that are taken are good codes -/
theorem gd_dpt {tc : DD} {cs : List Int32} (hc : CR tc cs) (hg : gd cs 0 = some 1) : ∀ k, k ≤ cs.length → gd (cs.drop k) (dpt tc k) = some 1
  | 0, _ => hg
  | k + 1, hk => by
    have ih := gd_dpt hc hg k (by omega)
    have hx : cs[k]? = some cs[k] := List.getElem?_eq_getElem (by omega)
    have e1 := hc k _ hx
    rw [List.drop_eq_getElem_cons (by omega)] at ih
    unfold gd at ih
    rw [← e1] at ih
    show gd (cs.drop (k + 1)) (if tc k < 20000 then dpt tc k + 1 else if tc k = 20033 then dpt tc k else dpt tc k - 1) = some 1
    by_cases h1 : tc k < 20000
    · rw [if_pos h1] at ih ⊢; exact ih
    · rw [if_neg h1] at ih ⊢
      by_cases h2 : tc k = 20033
      · rw [if_pos h2] at ih ⊢
        by_cases h3 : 1 ≤ dpt tc k
        · rw [if_pos h3] at ih; exact ih
        · rw [if_neg h3] at ih; exact absurd ih (by simp)
      · rw [if_neg h2] at ih ⊢
        by_cases h3 : 2 ≤ dpt tc k
        · rw [if_pos h3] at ih; exact ih
        · rw [if_neg h3] at ih; exact absurd ih (by simp)
