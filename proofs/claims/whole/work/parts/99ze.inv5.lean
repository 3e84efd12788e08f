theorem sh_copy {so sz nu isn : DD} {pl : Nat → DD} {f p t q m : Int32} (h : ShOK so sz pl nu isn) : ShOK so sz (D_copyP so sz pl f p t q m) (D_copy so sz nu f p t q m) (D_copy so sz isn f p t q m) := by
  unfold D_copyP D_copy
  by_cases ho : okCopy so sz f p t q m
  · rw [if_pos ho, if_pos ho, if_pos ho]
    intro k hk
    refine ⟨(h k hk).1, (h k hk).2.1, fun h0 i hi => ?_⟩
    obtain ⟨⟨hf, ht⟩, hneg, _, hp, hq⟩ := ho
    have hf4 := isS_nat hf
    have ht4 := isS_nat ht
    obtain ⟨a, ha, ea⟩ := (h _ hf4).2.1
    obtain ⟨b, hb2, eb⟩ := (h _ ht4).2.1
    obtain ⟨p', hp1, ep⟩ := nI_of hp.1
    obtain ⟨m', hm1, em⟩ := nI_of hp.2.1
    obtain ⟨q', hq1, eq⟩ := nI_of hq.1
    have h1 := hp.2.2
    have h2 := hq.2.2
    rw [ea] at h1
    rw [eb] at h2
    subst ep em eq
    rw [nI_toInt (by omega), nI_toInt (by omega), nI_toInt (by omega)] at h1 h2
    rw [nI_clamp hp1, nI_clamp hm1, nI_clamp hq1]
    rw [cpyF_eq, cpyF_eq]
    by_cases e : k = t.toNatClampNeg
    · rw [← e, updP_eq]
      unfold va_cpy
      by_cases e2 : q' ≤ i ∧ i < q' + m'
      · rw [if_pos e2, if_pos (by omega), if_pos (by omega)]
        have := (h _ hf4).2.2 (fun z => hneg (Or.inl z)) (p' + (i - q')) (by omega)
        rw [show 24 * f.toNatClampNeg + p' + (24 * k + i - (24 * k + q')) = 24 * f.toNatClampNeg + (p' + (i - q')) by omega]
        exact this
      · rw [if_neg e2, if_neg (by omega), if_neg (by omega)]
        exact (h k hk).2.2 h0 i hi
    · rw [updP_ne e, if_neg (by omega), if_neg (by omega)]
      exact (h k hk).2.2 h0 i hi
  · rw [if_neg ho, if_neg ho, if_neg ho]
    exact h
