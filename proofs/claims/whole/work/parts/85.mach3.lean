/-! the class's words are the reference's -/
def endM (tf : DD) (tp b : Nat) : Nat := if b < tp then (if isLt (tf b) then endL tf tp b else if isDg (tf b) then endD tf tp b else b + 1) else tp
theorem lex_b {tf : DD} {tp a w : Nat} : (lexF tf tp a w).1 = skipB tf tp a := by
  unfold lexF
  split
  · rfl
  · split
    · rfl
    · split <;> rfl
theorem lex_at {tf : DD} {tp a w : Nat} (h : a ≤ tp) : (lexF tf tp a w).2.1 = endM tf tp (skipB tf tp a) := by
  have hs := skipB_le (tf := tf) h
  by_cases q : skipB tf tp a = tp
  · rw [lx_end rfl q]
    unfold endM
    rw [if_neg (by omega)]; exact q
  · have hlt : skipB tf tp a < tp := by omega
    by_cases hl : isLt (tf (skipB tf tp a))
    · rw [lx_let rfl q hl rfl]
      unfold endM
      rw [if_pos hlt, if_pos hl]
    · by_cases hd : isDg (tf (skipB tf tp a))
      · rw [lx_dig rfl q hl hd rfl]
        unfold endM
        rw [if_pos hlt, if_neg hl, if_pos hd]
      · rw [lx_sgn rfl q hl hd]
        unfold endM
        rw [if_pos hlt, if_neg hl, if_neg hd]
theorem lex_0 {tf : DD} {tp a w : Nat} : (lexF tf tp a w).2.2.2.1 = 0 ↔ skipB tf tp a = tp := by
  unfold lexF
  by_cases q : skipB tf tp a = tp
  · rw [if_pos q]; exact ⟨fun _ => q, fun _ => rfl⟩
  · rw [if_neg q]
    refine ⟨fun h => ?_, fun h => absurd h q⟩
    exfalso
    revert h
    split
    · show (if _ then (4 : Int32) else 1) = 0 → False
      split <;> decide
    · split
      · show (if _ then (4 : Int32) else 2) = 0 → False
        split <;> decide
      · show (3 : Int32) = 0 → False
        decide
abbrev isWd (c : Int32) : Prop := isLt c ∨ isDg c
theorem lex_4 {tf : DD} {tp a w : Nat} (h0 : 0 < skipB tf tp a) (hn : ¬ skipB tf tp a = tp) : (lexF tf tp a w).2.2.2.1 = 4 ↔ skipB tf tp a = w ∧ isWd (tf (skipB tf tp a)) := by
  unfold lexF
  rw [if_neg hn]
  by_cases hl : isLt (tf (skipB tf tp a))
  · rw [if_pos hl]
    show (if _ then (4 : Int32) else 1) = 4 ↔ _
    by_cases q : 0 < skipB tf tp a ∧ skipB tf tp a = w
    · rw [if_pos q]; exact ⟨fun _ => ⟨q.2, Or.inl hl⟩, fun _ => rfl⟩
    · rw [if_neg q]; exact ⟨fun z => absurd z (by decide), fun z => absurd ⟨h0, z.1⟩ q⟩
  · rw [if_neg hl]
    by_cases hd : isDg (tf (skipB tf tp a))
    · rw [if_pos hd]
      show (if _ then (4 : Int32) else 2) = 4 ↔ _
      by_cases q : 0 < skipB tf tp a ∧ skipB tf tp a = w
      · rw [if_pos q]; exact ⟨fun _ => ⟨q.2, Or.inr hd⟩, fun _ => rfl⟩
      · rw [if_neg q]; exact ⟨fun z => absurd z (by decide), fun z => absurd ⟨h0, z.1⟩ q⟩
    · rw [if_neg hd]
      exact ⟨fun z => absurd z (show ¬ (3 : Int32) = 4 by decide), fun z => by rcases z.2 with y | y; exact absurd y hl; exact absurd y hd⟩
/-- behind a word, or behind a sign -/
def bwI (tf : DD) (x : LX) : Prop := x.2.2.2.1 = 0 ∨ (x.2.2.1 = x.2.1 ∧ isWd (tf (x.2.1 - 1))) ∨ (x.2.2.1 < x.2.1 ∧ ¬ isWd (tf (x.2.1 - 1)))
theorem lex_bw {tf : DD} {tp a w : Nat} (h : a ≤ tp) (hw : w ≤ a) : bwI tf (lexF tf tp a w) := by
  have hs := skipB_le (tf := tf) h
  have hg : a ≤ skipB tf tp a := lst_ge _ _ _
  by_cases q : skipB tf tp a = tp
  · left; exact lex_0.mpr q
  · right
    by_cases hl : isLt (tf (skipB tf tp a))
    · left
      have h3 : skipB tf tp a + 1 ≤ endL tf tp (skipB tf tp a) := by
        unfold endL
        rw [lst_step (N := tp) (by omega) (fun z => z hl)]
        exact lst_ge _ _ _
      rw [lx_let rfl q hl rfl]
      exact ⟨rfl, Or.inl (endL_all (tp := tp) (b := skipB tf tp a) _ (by show _ ≤ endL tf tp _ - 1; omega) (by show endL tf tp _ - 1 < _; omega))⟩
    · by_cases hd : isDg (tf (skipB tf tp a))
      · left
        have h3 : skipB tf tp a + 1 ≤ endD tf tp (skipB tf tp a) := by
          unfold endD
          rw [lst_step (N := tp) (by omega) (fun z => z hd)]
          exact lst_ge _ _ _
        rw [lx_dig rfl q hl hd rfl]
        exact ⟨rfl, Or.inr (endD_all (tp := tp) (b := skipB tf tp a) _ (by show _ ≤ endD tf tp _ - 1; omega) (by show endD tf tp _ - 1 < _; omega))⟩
      · right
        rw [lx_sgn rfl q hl hd]
        refine ⟨by show w < skipB tf tp a + 1; omega, ?_⟩
        show ¬ isWd (tf (skipB tf tp a + 1 - 1))
        rw [Nat.add_sub_cancel]
        exact fun z => by rcases z with y | y; exact hl y; exact hd y
theorem bw_le {tf : DD} {tp : Nat} : ∀ i, bwA tf tp i ≤ atA tf tp i ∧ bwI tf (lxs tf tp i)
  | 0 => by
    have h := lex_bw (tf := tf) (tp := tp) (a := 0) (w := 0) (Nat.zero_le _) (Nat.le_refl _)
    refine ⟨?_, h⟩
    rcases h with z | z | z
    · have e := lex_0.mp z
      show (lexF tf tp 0 0).2.2.1 ≤ _
      rw [lx_end rfl e]; exact Nat.zero_le _
    · exact Nat.le_of_eq z.1
    · exact Nat.le_of_lt z.1
  | i + 1 => by
    have ih := (bw_le (tf := tf) (tp := tp) i).1
    have h := lex_bw (tf := tf) (tp := tp) (a := atA tf tp i) (w := bwA tf tp i) (lxs_rng i).2.1 ih
    refine ⟨?_, h⟩
    rcases h with z | z | z
    · have e := lex_0.mp z
      show (lexF tf tp (atA tf tp i) (bwA tf tp i)).2.2.1 ≤ (lexF tf tp (atA tf tp i) (bwA tf tp i)).2.1
      rw [lx_end rfl e]
      show bwA tf tp i ≤ skipB tf tp (atA tf tp i)
      have : atA tf tp i ≤ skipB tf tp (atA tf tp i) := lst_ge _ _ _
      omega
    · exact Nat.le_of_eq z.1
    · exact Nat.le_of_lt z.1
theorem bg_s {tf : DD} {tp i : Nat} : bgA tf tp (i + 1) = skipB tf tp (atA tf tp i) := lex_b
theorem at_s {tf : DD} {tp i : Nat} : atA tf tp (i + 1) = endM tf tp (bgA tf tp (i + 1)) := by rw [bg_s]; exact lex_at (lxs_rng i).2.1
theorem tk0 {tf : DD} {tp i : Nat} : tkA tf tp (i + 1) = 0 ↔ bgA tf tp (i + 1) = tp := by rw [bg_s]; exact lex_0
theorem tk4 {tf : DD} {tp i : Nat} (hi : ¬ tkA tf tp i = 0) (hn : ¬ bgA tf tp (i + 1) = tp) : tkA tf tp (i + 1) = 4 ↔ (bgA tf tp (i + 1) = atA tf tp i ∧ isWd (tf (atA tf tp i - 1)) ∧ isWd (tf (bgA tf tp (i + 1)))) := by
  have h1 := (lxs_rng (tf := tf) (tp := tp) i).2.2.2 hi
  have h2 := bg_step (tf := tf) (tp := tp) (i := i)
  have h3 : tkA tf tp (i + 1) = 4 ↔ bgA tf tp (i + 1) = bwA tf tp i ∧ isWd (tf (bgA tf tp (i + 1))) := by
    have := lex_4 (tf := tf) (tp := tp) (a := atA tf tp i) (w := bwA tf tp i) (by rw [← bg_s]; omega) (by rw [← bg_s]; exact hn)
    rw [bg_s]; exact this
  rw [h3]
  rcases (bw_le (tf := tf) (tp := tp) i).2 with z | z | z
  · exact absurd z hi
  · have e : bwA tf tp i = atA tf tp i := z.1
    rw [e]
    exact ⟨fun y => ⟨y.1, z.2, y.2⟩, fun y => ⟨y.1, y.2.2⟩⟩
  · have e : bwA tf tp i < atA tf tp i := z.1
    exact ⟨fun y => absurd y.1 (by omega), fun y => absurd y.2.1 z.2⟩
/-! the class's key -/
def wordF (tf : DD) (b k : Nat) : Int32 := itn (fun i w => (w <<< ((8 : Int32) &&& 31)) ||| tf (b + i)) k 0
def keyM (tf : DD) (b e : Nat) : Int32 := if (if e - b ≤ 4 then wordF tf b (e - b) else 0) = 6710629 then 1 else if (if e - b ≤ 4 then wordF tf b (e - b) else 0) = 6711668 then 0 else if (if e - b ≤ 4 then wordF tf b (e - b) else 0) = 1718185573 then 2 else -1
def kyM (tf : DD) (tp : Nat) : Int32 := keyM tf (bgA tf tp 0) (atA tf tp 0)
def q0M : MS := (false, [], [], 0, 0, 0)
def fltM (tf : DD) (tp : Nat) : Int32 × MS := if kyM tf tp < 0 then (nI (bgA tf tp 0), q0M) else runM tf tp (kyM tf tp) 97 0 q0M
theorem keyM_3 {tf : DD} {b e : Nat} : keyM tf b e = -1 ∨ keyM tf b e = 0 ∨ keyM tf b e = 1 ∨ keyM tf b e = 2 := by unfold keyM; grind
def nsI (ky : Int32) : Nat := if ky = 0 then 1 else if ky = 1 then 2 else 3
