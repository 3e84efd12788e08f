/-! a piece -/
section PAR3
variable {tf : DD} {tp : Nat} {ky : Int32}
theorem is_term {q : PS} (hb : q.2.2.2 = false) : (sgA tf tp 42 q ∨ sgA tf tp 47 q) ↔ opR tf tp q.1 = 5 := by
  have hb' : ¬ q.2.2.2 = true := by rw [hb]; decide
  rw [sg_iff, sg_iff]
  unfold opR rk
  by_cases z : tkA tf tp q.1 = 3
  · rw [if_pos z]; grind
  · rw [if_neg z]; grind
theorem is_sum {q : PS} (hb : q.2.2.2 = false) : (sgA tf tp 43 q ∨ sgA tf tp 45 q) ↔ opR tf tp q.1 = 4 := by
  have hb' : ¬ q.2.2.2 = true := by rw [hb]; decide
  rw [sg_iff, sg_iff]
  unfold opR rk
  by_cases z : tkA tf tp q.1 = 3
  · rw [if_pos z]; grind
  · rw [if_neg z]; grind
theorem is_test {q : PS} (hb : q.2.2.2 = false) : (sgA tf tp 60 q ∨ sgA tf tp 61 q ∨ sgA tf tp 62 q) ↔ opR tf tp q.1 = 3 := by
  have hb' : ¬ q.2.2.2 = true := by rw [hb]; decide
  rw [sg_iff, sg_iff, sg_iff]
  unfold opR rk
  by_cases z : tkA tf tp q.1 = 3
  · rw [if_pos z]; grind
  · rw [if_neg z]; grind
theorem is_both {q : PS} (hb : q.2.2.2 = false) : sgA tf tp 38 q ↔ opR tf tp q.1 = 2 := by
  have hb' : ¬ q.2.2.2 = true := by rw [hb]; decide
  rw [sg_iff]
  unfold opR rk
  by_cases z : tkA tf tp q.1 = 3
  · rw [if_pos z]; grind
  · rw [if_neg z]; grind
theorem is_whole {q : PS} (hb : q.2.2.2 = false) : sgA tf tp 124 q ↔ opR tf tp q.1 = 1 := by
  have hb' : ¬ q.2.2.2 = true := by rw [hb]; decide
  rw [sg_iff]
  unfold opR rk
  by_cases z : tkA tf tp q.1 = 3
  · rw [if_pos z]; grind
  · rw [if_neg z]; grind
theorem lv_whole {o nn : Nat} {pc : PS → PS} (htp : tp ≤ 96) (hG : ∀ q, Gn tf tp q (pc q)) (hP : LvF tf tp ky o nn 6 pc) : LvF tf tp ky o nn 1 (wholeG tf tp pc) := by
  have h5 : LvF tf tp ky o nn 5 (termG tf tp pc) := lv_level (r := 5) (by omega) (by omega) htp hG (fun q hb => is_term hb) (fun q hb z => by rcases z with y | y <;> exact y.2.2 hb) hP
  have h4 : LvF tf tp ky o nn 4 (sumG tf tp pc) := lv_level (r := 4) (by omega) (by omega) htp (gn_term hG) (fun q hb => is_sum hb) (fun q hb z => by rcases z with y | y <;> exact y.2.2 hb) h5
  have h3 : LvF tf tp ky o nn 3 (testG tf tp pc) := lv_test h4 (fun q hb => is_test hb)
  have h2 : LvF tf tp ky o nn 2 (bothG tf tp pc) := lv_level (r := 2) (by omega) (by omega) htp (gn_test hG) (fun q hb => is_both hb) (fun q hb z => z.2.2 hb) h3
  have h1 : LvF tf tp ky o nn 1 (fun q => loopF (fun q => sgA tf tp 124 q) (bothG tf tp pc) (cdA tf tp) 100 (bothG tf tp pc q)) := lv_level (r := 1) (by omega) (by omega) htp (gn_both hG) (fun q hb => is_whole hb) (fun q hb z => z.2.2 hb) h2
  intro q O S hb hS
  have h := h1 q O S hb hS
  unfold wholeG
  rw [if_neg (by rw [hb]; decide)]
  exact h
theorem wd_rk {c : Int32} (h : isWd c) : rk c = 0 ∧ ¬ c = 41 ∧ ¬ c = 33 ∧ ¬ c = 40 := by
  have hr : ∃ a : Nat, a ≤ 122 ∧ (97 ≤ a ∨ (48 ≤ a ∧ a ≤ 57)) ∧ c = nI a := by
    rcases h with z | z
    · obtain ⟨a, ha, e⟩ := rng_nat (m := 122) (by omega) (Int32.le_trans (by decide) z.1) z.2
      have h1 := z.1
      rw [e, show (97 : Int32) = nI 97 from rfl, nI_leI (by omega) (by omega)] at h1
      exact ⟨a, ha, Or.inl h1, e⟩
    · obtain ⟨a, ha, e⟩ := rng_nat (m := 57) (by omega) (Int32.le_trans (by decide) z.1) z.2
      have h1 := z.1
      rw [e, show (48 : Int32) = nI 48 from rfl, nI_leI (by omega) (by omega)] at h1
      exact ⟨a, by omega, Or.inr ⟨h1, ha⟩, e⟩
  obtain ⟨a, ha, hb, e⟩ := hr
  rw [e]
  have : ∀ k : Fin 123, (97 ≤ k.val ∨ (48 ≤ k.val ∧ k.val ≤ 57)) → rk (nI k.val) = 0 ∧ ¬ nI k.val = 41 ∧ ¬ nI k.val = 33 ∧ ¬ nI k.val = 40 := by decide +kernel
  exact this ⟨a, by omega⟩ hb
/-- one that goes no further behind a piece -/
theorem stp_none {j o nn w : Nat} {O' S : List Int32} (h41 : ¬ (tkA tf tp j = 3 ∧ tf (bgA tf tp j) = 41) ∨ o = 0) (hns : NS tf tp ky 1 j (true, O', S, o, nn, w)) (ht : tkA tf tp j = 1 ∨ tkA tf tp j = 2 → isWd (tf (bgA tf tp j))) (hk : tkA tf tp j = 0 ∨ tkA tf tp j = 1 ∨ tkA tf tp j = 2 ∨ tkA tf tp j = 3 ∨ tkA tf tp j = 4) : stpM tf tp ky j (true, O', S, o, nn, w) = none := by
  by_cases h04 : tkA tf tp j = 0 ∨ tkA tf tp j = 4
  · unfold stpM; rw [if_pos h04]
  · by_cases h3 : tkA tf tp j = 3
    · by_cases hr : rk (tf (bgA tf tp j)) = 0
      · rw [stp_sg h3 rfl]
        unfold sgnM
        by_cases h4 : tf (bgA tf tp j) = 41
        · rw [if_pos h4]
          rcases h41 with z | z
          · exact absurd ⟨h3, h4⟩ z
          · unfold brkM; rw [if_pos z]
        · rw [if_neg h4, if_pos hr]
      · exact (hns (by unfold opR; rw [if_pos h3]; omega)).2
    · have hw := ht (by rcases hk with z | z | z | z | z; exact absurd (Or.inl z) h04; exact Or.inl z; exact Or.inr z; exact absurd z h3; exact absurd (Or.inr z) h04)
      unfold stpM
      rw [if_neg h04, if_pos rfl]
      have hr : rk (tf (bgA tf tp j)) = 0 ∧ ¬ tf (bgA tf tp j) = 41 := by
        have := wd_rk hw
        exact ⟨this.1, this.2.1⟩
      unfold sgnM
      rw [if_neg hr.2, if_pos hr.1]
theorem lex_kinds {a w : Nat} : ((lexF tf tp a w).2.2.2.1 = 0 ∨ (lexF tf tp a w).2.2.2.1 = 1 ∨ (lexF tf tp a w).2.2.2.1 = 2 ∨ (lexF tf tp a w).2.2.2.1 = 3 ∨ (lexF tf tp a w).2.2.2.1 = 4) ∧ ((lexF tf tp a w).2.2.2.1 = 1 → isLt (tf (lexF tf tp a w).1) ∧ (lexF tf tp a w).2.1 = endL tf tp (lexF tf tp a w).1 ∧ (lexF tf tp a w).2.2.2.2 = v27 tf (lexF tf tp a w).1 ((lexF tf tp a w).2.1 - (lexF tf tp a w).1)) ∧ ((lexF tf tp a w).2.2.2.1 = 2 → isDg (tf (lexF tf tp a w).1) ∧ ¬ isLt (tf (lexF tf tp a w).1) ∧ (lexF tf tp a w).2.1 = endD tf tp (lexF tf tp a w).1 ∧ (lexF tf tp a w).2.2.2.2 = v10 tf (lexF tf tp a w).1 ((lexF tf tp a w).2.1 - (lexF tf tp a w).1)) := by
  by_cases q : skipB tf tp a = tp
  · rw [lx_end rfl q]
    exact ⟨Or.inl rfl, fun z => absurd z (show ¬ (0 : Int32) = 1 by decide), fun z => absurd z (show ¬ (0 : Int32) = 2 by decide)⟩
  · by_cases hl : isLt (tf (skipB tf tp a))
    · rw [lx_let rfl q hl rfl]
      by_cases z : 0 < skipB tf tp a ∧ skipB tf tp a = w
      · rw [if_pos z]
        exact ⟨Or.inr (Or.inr (Or.inr (Or.inr rfl))), fun z => absurd z (show ¬ (4 : Int32) = 1 by decide), fun z => absurd z (show ¬ (4 : Int32) = 2 by decide)⟩
      · rw [if_neg z]
        exact ⟨Or.inr (Or.inl rfl), fun _ => ⟨hl, rfl, rfl⟩, fun z => absurd z (show ¬ (1 : Int32) = 2 by decide)⟩
    · by_cases hd : isDg (tf (skipB tf tp a))
      · rw [lx_dig rfl q hl hd rfl]
        by_cases z : 0 < skipB tf tp a ∧ skipB tf tp a = w
        · rw [if_pos z]
          exact ⟨Or.inr (Or.inr (Or.inr (Or.inr rfl))), fun z => absurd z (show ¬ (4 : Int32) = 1 by decide), fun z => absurd z (show ¬ (4 : Int32) = 2 by decide)⟩
        · rw [if_neg z]
          exact ⟨Or.inr (Or.inr (Or.inl rfl)), fun z => absurd z (show ¬ (2 : Int32) = 1 by decide), fun _ => ⟨hd, hl, rfl, rfl⟩⟩
      · rw [lx_sgn rfl q hl hd]
        exact ⟨Or.inr (Or.inr (Or.inr (Or.inl rfl))), fun z => absurd z (show ¬ (3 : Int32) = 1 by decide), fun z => absurd z (show ¬ (3 : Int32) = 2 by decide)⟩
theorem kinds (j : Nat) : (tkA tf tp j = 0 ∨ tkA tf tp j = 1 ∨ tkA tf tp j = 2 ∨ tkA tf tp j = 3 ∨ tkA tf tp j = 4) ∧ (tkA tf tp j = 1 → isLt (tf (bgA tf tp j)) ∧ atA tf tp j = endL tf tp (bgA tf tp j) ∧ vaA tf tp j = v27 tf (bgA tf tp j) (atA tf tp j - bgA tf tp j)) ∧ (tkA tf tp j = 2 → isDg (tf (bgA tf tp j)) ∧ ¬ isLt (tf (bgA tf tp j)) ∧ atA tf tp j = endD tf tp (bgA tf tp j) ∧ vaA tf tp j = v10 tf (bgA tf tp j) (atA tf tp j - bgA tf tp j)) := by
  cases j with
  | zero => exact lex_kinds
  | succ j => exact lex_kinds
theorem kinds_w {j : Nat} (h : tkA tf tp j = 1 ∨ tkA tf tp j = 2) : isWd (tf (bgA tf tp j)) := by
  rcases h with z | z
  · exact Or.inl ((kinds j).2.1 z).1
  · exact Or.inr ((kinds j).2.2 z).1
end PAR3
