/-! the reference's way of reading a text -/
def lxs (tf : DD) (tp : Nat) : Nat → LX
  | 0 => lexF tf tp 0 0
  | i + 1 => lexF tf tp (lxs tf tp i).2.1 (lxs tf tp i).2.2.1
def bgA (tf : DD) (tp i : Nat) : Nat := (lxs tf tp i).1
def atA (tf : DD) (tp i : Nat) : Nat := (lxs tf tp i).2.1
def bwA (tf : DD) (tp i : Nat) : Nat := (lxs tf tp i).2.2.1
def tkA (tf : DD) (tp i : Nat) : Int32 := (lxs tf tp i).2.2.2.1
def vaA (tf : DD) (tp i : Nat) : Int64 := (lxs tf tp i).2.2.2.2
/-- which token, codes, words, wrong -/
abbrev PS : Type := Nat × List Int32 × Nat × Bool
abbrev sgA (tf : DD) (tp : Nat) (c : Int32) (q : PS) : Prop := tkA tf tp q.1 = 3 ∧ vaA tf tp q.1 = c.toInt64 ∧ ¬ q.2.2.2 = true
def goF (may : Prop) [Decidable may] (q : PS) : PS := if q.2.2.2 = true ∨ ¬ may then (q.1, q.2.1, q.2.2.1, true) else (q.1 + 1, q.2.1, q.2.2.1, false)
def layF (v : Int32) (q : PS) : PS := if q.2.2.2 = true then q else (q.1, q.2.1 ++ [v], q.2.2.1, false)
def nxF (q : PS) : PS := (q.1 + 1, q.2.1, q.2.2.1, q.2.2.2)
def cdA (tf : DD) (tp : Nat) (q : PS) : Int32 := 20000 + (vaA tf tp q.1).toInt32
def chF (va : Int64) : Int32 := ((97 + va - 1 : Int64).toInt32.toUInt32 % 65536).toInt32
def nmR (ky c : Int32) : Int32 := if ky = 0 then (if c = 115 then 0 else if c = 112 then 1 else if c = 99 then 2 else if c = 110 then 3 else -1) else if ky = 1 then (if c = 111 then 0 else if c = 107 then 1 else -1) else (if c = 115 then 0 else if c = 99 then 1 else -1)
def nameF (ky tk : Int32) (va : Int64) : Int32 := if tk = 1 ∧ ¬ 26 < va ∧ ¬ va < 1 then nmR ky (chF va) else -1
abbrev numP (tk : Int32) (va : Int64) : Prop := tk = 2 ∧ va < 10000
def pieceV (tf : DD) (tp : Nat) (ky : Int32) (q : PS) : PS := goF (numP (tkA tf tp q.1) (vaA tf tp q.1) ∨ 0 ≤ nameF ky (tkA tf tp q.1) (vaA tf tp q.1)) (q.1, q.2.1 ++ [if numP (tkA tf tp q.1) (vaA tf tp q.1) then (vaA tf tp q.1).toInt32 else 10000 + nameF ky (tkA tf tp q.1) (vaA tf tp q.1)], q.2.2.1 + 1, false)
def loopF (is : PS → Prop) [DecidablePred is] (sub : PS → PS) (cd : PS → Int32) : Nat → PS → PS
  | 0, q => q
  | f + 1, q => if is q then loopF is sub cd f (layF (cd q) (sub (nxF q))) else q
def termG (tf : DD) (tp : Nat) (pc : PS → PS) (q : PS) : PS := loopF (fun q => sgA tf tp 42 q ∨ sgA tf tp 47 q) pc (cdA tf tp) 100 (pc q)
def sumG (tf : DD) (tp : Nat) (pc : PS → PS) (q : PS) : PS := loopF (fun q => sgA tf tp 43 q ∨ sgA tf tp 45 q) (termG tf tp pc) (cdA tf tp) 100 (termG tf tp pc q)
def testG (tf : DD) (tp : Nat) (pc : PS → PS) (q : PS) : PS := if sgA tf tp 60 (sumG tf tp pc q) ∨ sgA tf tp 61 (sumG tf tp pc q) ∨ sgA tf tp 62 (sumG tf tp pc q) then layF (cdA tf tp (sumG tf tp pc q)) (sumG tf tp pc (nxF (sumG tf tp pc q))) else sumG tf tp pc q
def bothG (tf : DD) (tp : Nat) (pc : PS → PS) (q : PS) : PS := loopF (fun q => sgA tf tp 38 q) (testG tf tp pc) (cdA tf tp) 100 (testG tf tp pc q)
def wholeG (tf : DD) (tp : Nat) (pc : PS → PS) (q : PS) : PS := if q.2.2.2 = true then q else loopF (fun q => sgA tf tp 124 q) (bothG tf tp pc) (cdA tf tp) 100 (bothG tf tp pc q)
def pieceF (tf : DD) (tp : Nat) (ky : Int32) : Nat → Nat → Nat → PS → PS
  | 0, _, _, q => q
  | f + 1, o, nn, q => if q.2.2.2 = true then q else if sgA tf tp 33 q then layF 20033 (pieceF tf tp ky f o (nn + 1) (goF (nn < 8) q)) else if sgA tf tp 40 q then goF (sgA tf tp 41 (wholeG tf tp (pieceF tf tp ky f (o + 1) nn) (goF (o < 8) q))) (wholeG tf tp (pieceF tf tp ky f (o + 1) nn) (goF (o < 8) q)) else pieceV tf tp ky q
/-! places -/
theorem lst_ge (p : Nat → Prop) [DecidablePred p] : ∀ f k, k ≤ lst p f k
  | 0, k => Nat.le_refl _
  | f + 1, k => by
    unfold lst
    split
    · exact Nat.le_refl _
    · have := lst_ge p f (k + 1); omega
theorem lex_rng {tf : DD} {tp at_ bw : Nat} (ha : at_ ≤ tp) (hb : bw ≤ tp) : at_ ≤ (lexF tf tp at_ bw).1 ∧ (lexF tf tp at_ bw).1 ≤ (lexF tf tp at_ bw).2.1 ∧ (lexF tf tp at_ bw).2.1 ≤ tp ∧ (lexF tf tp at_ bw).2.2.1 ≤ tp ∧ (¬ (lexF tf tp at_ bw).2.2.2.1 = 0 → (lexF tf tp at_ bw).1 < (lexF tf tp at_ bw).2.1) := by
  have h1 : at_ ≤ skipB tf tp at_ := lst_ge _ _ _
  have h2 := skipB_le (tf := tf) ha
  by_cases q : skipB tf tp at_ = tp
  · rw [lx_end rfl q]; exact ⟨h1, Nat.le_refl _, h2, hb, fun z => absurd rfl z⟩
  · by_cases hl : isLt (tf (skipB tf tp at_))
    · have h3 : skipB tf tp at_ + 1 ≤ endL tf tp (skipB tf tp at_) := by
        unfold endL
        rw [lst_step (N := tp) (by omega) (fun z => z hl)]
        exact lst_ge _ _ _
      have h4 : endL tf tp (skipB tf tp at_) ≤ tp := by have := lst_le (fun j => ¬ isLt (tf j)) (tp - skipB tf tp at_) (skipB tf tp at_); unfold endL; omega
      rw [lx_let rfl q hl rfl]
      exact ⟨h1, by show _ ≤ endL tf tp _; omega, h4, h4, fun _ => h3⟩
    · by_cases hd : isDg (tf (skipB tf tp at_))
      · have h3 : skipB tf tp at_ + 1 ≤ endD tf tp (skipB tf tp at_) := by
          unfold endD
          rw [lst_step (N := tp) (by omega) (fun z => z hd)]
          exact lst_ge _ _ _
        have h4 : endD tf tp (skipB tf tp at_) ≤ tp := by have := lst_le (fun j => ¬ isDg (tf j)) (tp - skipB tf tp at_) (skipB tf tp at_); unfold endD; omega
        rw [lx_dig rfl q hl hd rfl]
        exact ⟨h1, by show _ ≤ endD tf tp _; omega, h4, h4, fun _ => h3⟩
      · rw [lx_sgn rfl q hl hd]
        exact ⟨h1, by show skipB tf tp at_ ≤ skipB tf tp at_ + 1; omega, by show skipB tf tp at_ + 1 ≤ tp; omega, hb, fun _ => by show skipB tf tp at_ < skipB tf tp at_ + 1; omega⟩
theorem lxs_rng {tf : DD} {tp : Nat} : ∀ i, bgA tf tp i ≤ atA tf tp i ∧ atA tf tp i ≤ tp ∧ bwA tf tp i ≤ tp ∧ (¬ tkA tf tp i = 0 → bgA tf tp i < atA tf tp i)
  | 0 => (lex_rng (tf := tf) (tp := tp) (Nat.zero_le _) (Nat.zero_le _)).2
  | i + 1 => (lex_rng (tf := tf) (tp := tp) (lxs_rng i).2.1 (lxs_rng i).2.2.1).2
theorem bg_step {tf : DD} {tp i : Nat} : atA tf tp i ≤ bgA tf tp (i + 1) := (lex_rng (tf := tf) (tp := tp) (lxs_rng i).2.1 (lxs_rng i).2.2.1).1
theorem bg_lt {tf : DD} {tp i : Nat} (h : ¬ tkA tf tp i = 0) : bgA tf tp i + 1 ≤ bgA tf tp (i + 1) := by
  have h1 := (lxs_rng (tf := tf) (tp := tp) i).2.2.2 h
  have h2 := bg_step (tf := tf) (tp := tp) (i := i)
  omega
theorem bg_tp {tf : DD} {tp : Nat} (i : Nat) : bgA tf tp i ≤ tp := by have := lxs_rng (tf := tf) (tp := tp) i; omega
/-! each code is laid for a token that has gone by -/
def Gn (tf : DD) (tp : Nat) (q r : PS) : Prop := r.2.2.2 = false → q.2.2.2 = false ∧ r.2.1.length + bgA tf tp q.1 ≤ q.2.1.length + bgA tf tp r.1 ∧ bgA tf tp q.1 ≤ bgA tf tp r.1
theorem Gn.refl {tf : DD} {tp : Nat} {q : PS} : Gn tf tp q q := fun h => ⟨h, Nat.le_refl _, Nat.le_refl _⟩
theorem Gn.trans {tf : DD} {tp : Nat} {q r t : PS} (h1 : Gn tf tp q r) (h2 : Gn tf tp r t) : Gn tf tp q t := fun h => by
  obtain ⟨a, b, c⟩ := h2 h
  obtain ⟨a', b', c'⟩ := h1 a
  exact ⟨a', by omega, by omega⟩
theorem lay_bad {v : Int32} {q : PS} (h : (layF v q).2.2.2 = false) : q.2.2.2 = false ∧ layF v q = (q.1, q.2.1 ++ [v], q.2.2.1, false) := by
  unfold layF at *
  by_cases z : q.2.2.2 = true
  · rw [if_pos z, z] at h; cases h
  · rw [if_neg z]; exact ⟨by simpa using z, rfl⟩
theorem go_bad {may : Prop} [Decidable may] {q : PS} (h : (goF may q).2.2.2 = false) : q.2.2.2 = false ∧ may ∧ goF may q = (q.1 + 1, q.2.1, q.2.2.1, false) := by
  unfold goF at *
  by_cases z : q.2.2.2 = true ∨ ¬ may
  · rw [if_pos z] at h; cases h
  · rw [if_neg z]
    exact ⟨by cases y : q.2.2.2 with | false => rfl | true => exact absurd (Or.inl y) z, Decidable.byContradiction (fun y => z (Or.inr y)), rfl⟩
/-- a sign, its right side, the sign's code -/
theorem gn_bin {tf : DD} {tp : Nat} {F : PS → PS} (hF : ∀ q, Gn tf tp q (F q)) {q : PS} {v : Int32} (hs : tkA tf tp q.1 = 3) : Gn tf tp q (layF v (F (nxF q))) := by
  intro h
  obtain ⟨h1, h2⟩ := lay_bad h
  obtain ⟨a, b, c⟩ := hF (nxF q) h1
  have h3 := bg_lt (tf := tf) (tp := tp) (i := q.1) (by rw [hs]; decide)
  rw [h2]
  have e1 : (nxF q).1 = q.1 + 1 := rfl
  have e2 : (nxF q).2.1 = q.2.1 := rfl
  rw [e1] at b c
  rw [e2] at b
  refine ⟨a, ?_, ?_⟩
  · show (_ ++ [v]).length + _ ≤ _
    rw [List.length_append]
    show _ + 1 + _ ≤ _ + bgA tf tp (F (nxF q)).1
    omega
  · show _ ≤ bgA tf tp (F (nxF q)).1
    omega
theorem gn_loop {tf : DD} {tp : Nat} {is : PS → Prop} [DecidablePred is] {F : PS → PS} {cd : PS → Int32} (hF : ∀ q, Gn tf tp q (F q)) (hs : ∀ q, is q → tkA tf tp q.1 = 3) : ∀ f q, Gn tf tp q (loopF is F cd f q)
  | 0, q => Gn.refl
  | f + 1, q => by
    unfold loopF
    split
    · exact (gn_bin hF (hs q ‹_›)).trans (gn_loop hF hs f _)
    · exact Gn.refl
theorem gn_term {tf : DD} {tp : Nat} {F : PS → PS} (hF : ∀ q, Gn tf tp q (F q)) (q : PS) : Gn tf tp q (termG tf tp F q) := (hF q).trans (gn_loop hF (fun q h => by rcases h with z | z <;> exact z.1) _ _)
theorem gn_sum {tf : DD} {tp : Nat} {F : PS → PS} (hF : ∀ q, Gn tf tp q (F q)) (q : PS) : Gn tf tp q (sumG tf tp F q) := (gn_term hF q).trans (gn_loop (gn_term hF) (fun q h => by rcases h with z | z <;> exact z.1) _ _)
theorem gn_test {tf : DD} {tp : Nat} {F : PS → PS} (hF : ∀ q, Gn tf tp q (F q)) (q : PS) : Gn tf tp q (testG tf tp F q) := by
  unfold testG
  split
  · rename_i h
    exact (gn_sum hF q).trans (gn_bin (gn_sum hF) (by rcases h with z | z | z <;> exact z.1))
  · exact gn_sum hF q
theorem gn_both {tf : DD} {tp : Nat} {F : PS → PS} (hF : ∀ q, Gn tf tp q (F q)) (q : PS) : Gn tf tp q (bothG tf tp F q) := (gn_test hF q).trans (gn_loop (gn_test hF) (fun q h => h.1) _ _)
theorem gn_whole {tf : DD} {tp : Nat} {F : PS → PS} (hF : ∀ q, Gn tf tp q (F q)) (q : PS) : Gn tf tp q (wholeG tf tp F q) := by
  unfold wholeG
  split
  · exact Gn.refl
  · exact (gn_both hF q).trans (gn_loop (gn_both hF) (fun q h => h.1) _ _)
theorem gn_go {tf : DD} {tp : Nat} {may : Prop} [Decidable may] {q : PS} (hs : may → ¬ tkA tf tp q.1 = 0) : (goF may q).2.2.2 = false → q.2.2.2 = false ∧ (goF may q).2.1 = q.2.1 ∧ bgA tf tp q.1 + 1 ≤ bgA tf tp (goF may q).1 := by
  intro h
  obtain ⟨h1, h2, h3⟩ := go_bad h
  rw [h3]
  exact ⟨h1, rfl, bg_lt (hs h2)⟩
theorem gn_piece {tf : DD} {tp : Nat} {ky : Int32} : ∀ f o nn q, Gn tf tp q (pieceF tf tp ky f o nn q)
  | 0, _, _, q => Gn.refl
  | f + 1, o, nn, q => by
    unfold pieceF
    split
    · exact Gn.refl
    · split
      · rename_i hs
        intro h
        obtain ⟨h1, h2⟩ := lay_bad h
        obtain ⟨a, b, c⟩ := gn_piece f o (nn + 1) (goF (nn < 8) q) h1
        obtain ⟨x, y, z⟩ := gn_go (tf := tf) (tp := tp) (fun _ => by rw [hs.1]; decide) a
        rw [y] at b
        rw [h2]
        refine ⟨x, ?_, ?_⟩
        · show (_ ++ [(20033 : Int32)]).length + _ ≤ _
          rw [List.length_append]
          show _ + 1 + _ ≤ _ + bgA tf tp (pieceF tf tp ky f o (nn + 1) (goF (nn < 8) q)).1
          omega
        · show _ ≤ bgA tf tp (pieceF tf tp ky f o (nn + 1) (goF (nn < 8) q)).1
          omega
      · split
        · rename_i hs
          intro h
          have hw := gn_whole (fun q => gn_piece (tf := tf) (tp := tp) (ky := ky) f (o + 1) nn q) (goF (o < 8) q)
          generalize wholeG tf tp (pieceF tf tp ky f (o + 1) nn) (goF (o < 8) q) = W at h hw ⊢
          obtain ⟨h1, h2, h3⟩ := go_bad h
          obtain ⟨a, b, c⟩ := hw h1
          obtain ⟨x, y, z⟩ := gn_go (tf := tf) (tp := tp) (fun _ => by rw [hs.1]; decide) a
          have w := bg_lt (tf := tf) (tp := tp) (i := W.1) (by rw [h2.1]; decide)
          rw [y] at b
          rw [h3]
          refine ⟨x, ?_, ?_⟩
          · show W.2.1.length + bgA tf tp q.1 ≤ q.2.1.length + bgA tf tp (W.1 + 1)
            omega
          · show bgA tf tp q.1 ≤ bgA tf tp (W.1 + 1)
            omega
        · rename_i hb _ _
          intro h
          unfold pieceV at h ⊢
          obtain ⟨h1, h2, h3⟩ := go_bad h
          rw [h3]
          have w := bg_lt (tf := tf) (tp := tp) (i := q.1) (by
            rcases h2 with z | z
            · rw [z.1]; decide
            · intro y
              have : nameF ky (tkA tf tp q.1) (vaA tf tp q.1) = -1 := if_neg (fun x => absurd (x.1.symm.trans y) (by decide))
              rw [this] at z
              exact absurd z (by decide))
          generalize (if numP (tkA tf tp q.1) (vaA tf tp q.1) then (vaA tf tp q.1).toInt32 else 10000 + nameF ky (tkA tf tp q.1) (vaA tf tp q.1)) = v
          refine ⟨by simpa using hb, ?_, ?_⟩
          · show (q.2.1 ++ [v]).length + bgA tf tp q.1 ≤ q.2.1.length + bgA tf tp (q.1 + 1)
            rw [List.length_append]
            show q.2.1.length + 1 + bgA tf tp q.1 ≤ q.2.1.length + bgA tf tp (q.1 + 1)
            omega
          · show bgA tf tp q.1 ≤ bgA tf tp (q.1 + 1)
            omega
/-- the row of codes holds them -/
def CR (cf : DD) (cs : List Int32) : Prop := ∀ (j : Nat) (x : Int32), cs[j]? = some x → cf j = x
theorem CR.nil {cf : DD} : CR cf [] := fun j x h => by simp at h
theorem CR.snoc {cf : DD} {cs : List Int32} {v : Int32} (h : CR cf cs) : CR (upd cf cs.length v) (cs ++ [v]) := by
  intro j x hx
  by_cases hj : j < cs.length
  · rw [List.getElem?_append_left hj] at hx
    rw [upd_ne (by omega)]
    exact h j x hx
  · rw [List.getElem?_append_right (by omega)] at hx
    have hl := (List.getElem?_eq_some_iff.mp hx).1
    simp at hl
    have e : j = cs.length := by omega
    subst e
    simp at hx
    rw [upd_eq]; exact hx
theorem CR.lay {cf : DD} {v : Int32} {q : PS} (h : CR cf q.2.1) : CR (if q.2.2.2 = true then cf else upd cf q.2.1.length v) (layF v q).2.1 := by
  unfold layF
  by_cases z : q.2.2.2 = true
  · rw [if_pos z, if_pos z]; exact h
  · rw [if_neg z, if_neg z]; exact h.snoc
def okQ (tf : DD) (tp : Nat) (q : PS) : Prop := q.2.2.2 = false → q.2.1.length + 3 ≤ bgA tf tp q.1
theorem rok_of {K k maxL cells mc slots ms mcW msW : Nat} (h1 : k + 1 ≤ K) (hL : maxL ≤ 21) (hc : cells + mc ≤ mcW) (hs : slots + ms ≤ msW) : rok (rmx K mcW msW) k maxL cells mc slots ms = true := by
  simp only [rok, Bool.and_eq_true]
  exact ⟨Nat.ble_eq_true_of_le h1, Nat.ble_eq_true_of_le (show 8 + (maxL + 11) + 40 * k ≤ 40 * K by omega), Nat.ble_eq_true_of_le hc, Nat.ble_eq_true_of_le hs⟩
