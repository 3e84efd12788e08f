/-! the sheets stay the same on both sides -/
theorem isS_nat {x : Int32} (h : isS x) : x.toNatClampNeg < 4 := by
  obtain ⟨j, hj, ej⟩ := rng_nat (x := x) (m := 3) (by omega) h.1 h.2
  subst ej
  rw [nI_clamp (by omega)]
  omega
theorem sh_sheet {so sz nu isn : DD} {pl : Nat → DD} {x s n : Int32} (h : ShOK so sz pl nu isn) : ShOK (D_sheet1 so x s n) (D_sheet2 sz x s n) (D_sheetP pl x s n) (D_sheet3 nu x s n) (D_sheet4 isn x s n) := by
  unfold D_sheet1 D_sheet2 D_sheetP D_sheet3 D_sheet4
  by_cases ho : okSheet x s n
  · rw [if_pos ho, if_pos ho, if_pos ho, if_pos ho, if_pos ho]
    intro k hk
    have hb2 : isS x ∧ (s = -1 ∨ s = 0 ∨ s = 1) ∧ (¬ s < 0 → 0 ≤ n ∧ n ≤ 24) := by have h1 := ho.1; have h2 := ho.2; unfold isS; grind
    have hx4 := isS_nat hb2.1
    by_cases e : k = x.toNatClampNeg
    · rw [← e, upd_eq, upd_eq, updP_eq]
      refine ⟨hb2.2.1, ?_, fun _ i hi => ?_⟩
      · by_cases hs : s < 0
        · rw [if_pos hs]; exact ⟨0, by omega, rfl⟩
        · rw [if_neg hs]
          have h2 := hb2.2.2 hs
          obtain ⟨j, hj, ej⟩ := rng_nat (x := n) (m := 24) (by omega) h2.1 h2.2
          exact ⟨j, hj, ej⟩
      · rw [fillF_eq, fillF_eq, if_pos (by omega), if_pos (by omega)]
        exact ⟨by decide, by decide⟩
    · rw [upd_ne e, upd_ne e, updP_ne e]
      refine ⟨(h k hk).1, (h k hk).2.1, fun h0 i hi => ?_⟩
      rw [fillF_eq, fillF_eq, if_neg (by omega), if_neg (by omega)]
      exact (h k hk).2.2 h0 i hi
  · rw [if_neg ho, if_neg ho, if_neg ho, if_neg ho, if_neg ho]
    exact h
theorem short_ne (v : Int32) : ¬ v.toInt16.toInt32 = -1000000005 := by
  intro z
  have h1 := congrArg Int32.toInt z
  rw [Int16.toInt_toInt32] at h1
  have h2 := Int16.le_toInt v.toInt16
  have h3 : (-1000000005 : Int32).toInt = -1000000005 := by decide
  rw [h3] at h1
  omega
theorem sh_mark {so sz nu isn : DD} {pl : Nat → DD} {x p v : Int32} (h : ShOK so sz pl nu isn) : ShOK so sz (D_markP so sz pl x p v) (D_mark2 so sz nu x p v) (D_mark1 so sz isn x p v) := by
  unfold D_markP D_mark1 D_mark2
  by_cases ho : okMark so sz x p v
  · rw [if_pos ho, if_pos ho, if_pos ho]
    intro k hk
    have hx4 := isS_nat ho.1
    refine ⟨(h k hk).1, (h k hk).2.1, fun h0 i hi => ?_⟩
    obtain ⟨m, hm, em⟩ := (h _ hx4).2.1
    obtain ⟨j, hj, ej, ejj⟩ := below_nat em (by omega) ho.2.2.1
    rw [ejj]
    by_cases e : k = x.toNatClampNeg
    · rw [← e, updP_eq]
      by_cases e2 : i = j
      · rw [e2, upd_eq, upd_eq, upd_eq]
        have hso := (h k hk).1
        have ho4 := ho.2.2.2.1
        rw [← e] at ho4
        unfold plV markX markV
        by_cases hv : v = -1000000005
        · rw [if_pos hv, if_pos hv, if_pos rfl]
          have h3 : ¬ so k = 0 := fun z => ho4 ⟨z, hv⟩
          rw [if_neg h3]
          exact ⟨hv, by decide⟩
        · simp only [if_neg hv, show ¬ (1 : Int32) = 0 by decide, if_false]
          refine ⟨trivial, ?_⟩
          by_cases h3 : so k = 0
          · rw [if_pos h3]; exact short_ne v
          · rw [if_neg h3]; exact hv
      · rw [upd_ne e2, upd_ne (by omega), upd_ne (by omega)]
        exact (h k hk).2.2 h0 i hi
    · rw [updP_ne e, upd_ne (by omega), upd_ne (by omega)]
      exact (h k hk).2.2 h0 i hi
  · rw [if_neg ho, if_neg ho, if_neg ho]
    exact h
