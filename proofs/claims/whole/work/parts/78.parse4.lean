/-! a word's letters -/
theorem endL_all {tf : DD} {tp b : Nat} : ∀ j, b ≤ j → j < endL tf tp b → isLt (tf j) := by
  have h : ∀ (n k : Nat), ∀ j, k ≤ j → j < lst (fun j => ¬ isLt (tf j)) n k → isLt (tf j) := by
    intro n
    induction n with
    | zero => intro k j h1 h2; exact absurd h2 (by show ¬ j < k; omega)
    | succ n ih =>
      intro k j h1 h2
      unfold lst at h2
      by_cases q : ¬ isLt (tf k)
      · rw [if_pos q] at h2; omega
      · rw [if_neg q] at h2
        by_cases z : j = k
        · rw [z]; exact Decidable.byContradiction q
        · exact ih (k + 1) j (by omega) h2
  exact h _ _
theorem endD_all {tf : DD} {tp b : Nat} : ∀ j, b ≤ j → j < endD tf tp b → isDg (tf j) := by
  have h : ∀ (n k : Nat), ∀ j, k ≤ j → j < lst (fun j => ¬ isDg (tf j)) n k → isDg (tf j) := by
    intro n
    induction n with
    | zero => intro k j h1 h2; exact absurd h2 (by show ¬ j < k; omega)
    | succ n ih =>
      intro k j h1 h2
      unfold lst at h2
      by_cases q : ¬ isDg (tf k)
      · rw [if_pos q] at h2; omega
      · rw [if_neg q] at h2
        by_cases z : j = k
        · rw [z]; exact Decidable.byContradiction q
        · exact ih (k + 1) j (by omega) h2
  exact h _ _
theorem n27_s {tf : DD} {b k : Nat} : n27 tf b (k + 1) = 27 * n27 tf b k + (byt tf (b + k) - 96) := rfl
theorem n27_rng {tf : DD} {b : Nat} : ∀ k, (∀ i, i < k → isLt (tf (b + i))) → n27 tf b k < 27 ^ k ∧ (0 < k → 27 ^ (k - 1) ≤ n27 tf b k)
  | 0, _ => ⟨by show 0 < 1; omega, fun h => absurd h (by omega)⟩
  | k + 1, h => by
    obtain ⟨h1, h2⟩ := n27_rng k (fun i hi => h i (by omega))
    obtain ⟨a, b', -⟩ := lt_byt (h k (by omega))
    have e := n27_s (tf := tf) (b := b) (k := k)
    have hp : 27 ^ (k + 1) = 27 * 27 ^ k := by rw [Nat.pow_succ]; omega
    refine ⟨by omega, fun _ => ?_⟩
    show 27 ^ k ≤ _
    rcases Nat.eq_zero_or_pos k with z | z
    · subst z
      show 1 ≤ _
      omega
    · have h3 := h2 z
      have hp2 : 27 ^ k = 27 * 27 ^ (k - 1) := by rw [show k = k - 1 + 1 by omega, Nat.pow_succ]; simp; omega
      omega
theorem pow27 : (27 : Nat) ^ 9 < 2 ^ 63 := by decide
theorem v27_lN {tf : DD} {b k n : Nat} (hl : ∀ i, i < k → isLt (tf (b + i))) (hn : n < 2 ^ 31) (h : v27 tf b k = lN n) : k ≤ 9 ∧ n27 tf b k = n := by
  unfold v27 at h
  by_cases q : k ≤ 9
  · rw [if_pos q] at h
    have h1 := (n27_rng k hl).1
    have h2 : 27 ^ k ≤ 27 ^ 9 := Nat.pow_le_pow_right (by omega) q
    have h3 := pow27
    exact ⟨q, (pk_lEQ (by omega) (by omega)).mp h⟩
  · rw [if_neg q] at h
    exfalso
    have h1 : (-1 : Int64) < 0 := by decide
    rw [h] at h1
    have h2 : (lN n).toInt = (n : Int) := lN_toInt hn
    rw [Int64.lt_iff_toInt_lt, h2] at h1
    have h3 : (0 : Int64).toInt = 0 := by decide
    omega
/-- the key's word -/
def keyF (tk : Int32) (va : Int64) : Int32 := if tk = 1 ∧ va = 4637 then 0 else if tk = 1 ∧ va = 4514 then 1 else if tk = 1 ∧ va = 125042 then 2 else -1
theorem lex_1 {tf : DD} {tp at_ bw : Nat} (ha : at_ ≤ tp) (h : (lexF tf tp at_ bw).2.2.2.1 = 1) : ∃ b e : Nat, skipB tf tp at_ = b ∧ ¬ b = tp ∧ isLt (tf b) ∧ endL tf tp b = e ∧ lexF tf tp at_ bw = (b, e, e, 1, v27 tf b (e - b)) ∧ b < e := by
  by_cases q : skipB tf tp at_ = tp
  · rw [lx_end rfl q] at h; exact absurd h (show ¬ (0 : Int32) = 1 by decide)
  · by_cases hl : isLt (tf (skipB tf tp at_))
    · have h3 : skipB tf tp at_ + 1 ≤ endL tf tp (skipB tf tp at_) ∨ tp ≤ skipB tf tp at_ := by
        rcases Nat.lt_or_ge (skipB tf tp at_) tp with z | z
        · left
          unfold endL
          rw [lst_step (N := tp) z (fun y => y hl)]
          exact lst_ge _ _ _
        · exact Or.inr z
      rw [lx_let rfl q hl rfl] at h ⊢
      have h' : (if 0 < skipB tf tp at_ ∧ skipB tf tp at_ = bw then (4 : Int32) else 1) = 1 := h
      by_cases z : 0 < skipB tf tp at_ ∧ skipB tf tp at_ = bw
      · rw [if_pos z] at h'; exact absurd h' (by decide)
      · refine ⟨_, _, rfl, q, hl, rfl, by rw [if_neg z], ?_⟩
        rcases h3 with y | y
        · exact y
        · have := skipB_le (tf := tf) ha; omega
    · by_cases hd : isDg (tf (skipB tf tp at_))
      · rw [lx_dig rfl q hl hd rfl] at h
        have h' : (if 0 < skipB tf tp at_ ∧ skipB tf tp at_ = bw then (4 : Int32) else 2) = 1 := h
        by_cases z : 0 < skipB tf tp at_ ∧ skipB tf tp at_ = bw
        · rw [if_pos z] at h'; exact absurd h' (by decide)
        · rw [if_neg z] at h'; exact absurd h' (by decide)
      · rw [lx_sgn rfl q hl hd] at h; exact absurd h (show ¬ (3 : Int32) = 1 by decide)
theorem key_len {tf : DD} {tp : Nat} (h : 0 ≤ keyF (tkA tf tp 0) (vaA tf tp 0)) : 3 ≤ atA tf tp 0 ∧ tkA tf tp 0 = 1 := by
  have h1 : tkA tf tp 0 = 1 ∧ (vaA tf tp 0 = lN 4637 ∨ vaA tf tp 0 = lN 4514 ∨ vaA tf tp 0 = lN 125042) := by
    unfold keyF at h
    by_cases a : tkA tf tp 0 = 1 ∧ vaA tf tp 0 = 4637
    · exact ⟨a.1, Or.inl a.2⟩
    · rw [if_neg a] at h
      by_cases b : tkA tf tp 0 = 1 ∧ vaA tf tp 0 = 4514
      · exact ⟨b.1, Or.inr (Or.inl b.2)⟩
      · rw [if_neg b] at h
        by_cases c : tkA tf tp 0 = 1 ∧ vaA tf tp 0 = 125042
        · exact ⟨c.1, Or.inr (Or.inr c.2)⟩
        · rw [if_neg c] at h; exact absurd h (by decide)
  refine ⟨?_, h1.1⟩
  obtain ⟨b, e, hb, -, -, he, hE, hlt⟩ := lex_1 (tf := tf) (tp := tp) (bw := 0) (Nat.zero_le _) h1.1
  have hv : vaA tf tp 0 = v27 tf b (e - b) := by show (lexF tf tp 0 0).2.2.2.2 = _; rw [hE]
  have ha : atA tf tp 0 = e := by show (lexF tf tp 0 0).2.1 = _; rw [hE]
  have hl : ∀ i, i < e - b → isLt (tf (b + i)) := fun i hi => endL_all (tp := tp) (b := b) _ (by omega) (by omega)
  rw [ha]
  have h2 : ∃ n, n < 2 ^ 31 ∧ 4514 ≤ n ∧ v27 tf b (e - b) = lN n := by
    rw [← hv]
    rcases h1.2 with z | z | z
    · exact ⟨4637, by omega, by omega, z⟩
    · exact ⟨4514, by omega, by omega, z⟩
    · exact ⟨125042, by omega, by omega, z⟩
  obtain ⟨n, hn, hn2, hvn⟩ := h2
  obtain ⟨h9, h10⟩ := v27_lN hl hn hvn
  have h11 := (n27_rng _ hl).1
  rcases Nat.lt_or_ge (e - b) 3 with z | z
  · have : 27 ^ (e - b) ≤ 27 ^ 2 := Nat.pow_le_pow_right (by omega) (by omega)
    have e2 : (27 : Nat) ^ 2 = 729 := by decide
    omega
  · omega
/-- what is read -/
def kyT (tf : DD) (tp : Nat) : Int32 := keyF (tkA tf tp 0) (vaA tf tp 0)
def tq0 : PS := (0, [], 0, false)
def tq1 (tf : DD) (tp : Nat) : PS := goF (0 ≤ kyT tf tp) tq0
def tqF (tf : DD) (tp : Nat) : PS := wholeG tf tp (pieceF tf tp (kyT tf tp) 17 0 0) (tq1 tf tp)
abbrev wrT (tf : DD) (tp : Nat) : Prop := (tqF tf tp).2.2.2 = true ∨ ¬ tkA tf tp (tqF tf tp).1 = 0
theorem tq1_ok {tf : DD} {tp : Nat} : okQ tf tp (tq1 tf tp) := fun z => by
  obtain ⟨-, h, e⟩ := go_bad z
  have h1 := (key_len h).1
  have h2 := bg_step (tf := tf) (tp := tp) (i := 0)
  unfold tq1
  rw [e]
  show 0 + 3 ≤ bgA tf tp (0 + 1)
  omega
def R_text (d tf : DD) (tp : Nat) : Int32 := if wrT tf tp then -100 - nI (bgA tf tp (tqF tf tp).1) else if d 9 = 14 then -1000000003 else d 9
abbrev okTx (d tf : DD) (tp : Nat) : Prop := ¬ wrT tf tp ∧ ¬ d 9 = 14
def cdR (cz : DD) (b m : Nat) (f : DD) : DD := itn (fun i f => upd f (b + i) (cz i)) m f
theorem cdR_eq (cz : DD) (b : Nat) (f : DD) : ∀ m j, cdR cz b m f j = if b ≤ j ∧ j < b + m then cz (j - b) else f j
  | 0, j => by rw [if_neg (by omega)]; rfl
  | m + 1, j => by
    show upd (cdR cz b m f) (b + m) (cz m) j = _
    by_cases h : j = b + m
    · rw [h, upd_eq, if_pos (by omega), Nat.add_sub_cancel_left]
    · rw [upd_ne h, cdR_eq cz b f m j]
      by_cases q : b ≤ j ∧ j < b + m
      · rw [if_pos q, if_pos (by omega)]
      · rw [if_neg q, if_neg (by omega)]
theorem tq_len {tf : DD} {tp : Nat} (htp : tp ≤ 96) (h : (tqF tf tp).2.2.2 = false) : (tqF tf tp).2.1.length + 3 ≤ 96 := by
  have h1 : okQ tf tp (tqF tf tp) := tq1_ok.gn (gn_whole (fun q => gn_piece 17 0 0 q) _)
  have h2 := h1 h
  have h3 := bg_tp (tf := tf) (tp := tp) (tqF tf tp).1
  omega
