/-! numbers and names -/
section PAR4
variable {tf : DD} {tp : Nat} {ky : Int32}
theorem n10_lt {b : Nat} : ∀ k, (∀ i, i < k → isDg (tf (b + i))) → n10 tf b k < 10 ^ k
  | 0, _ => by show 0 < 1; omega
  | k + 1, h => by
    have ih := n10_lt (b := b) k (fun i hi => h i (by omega))
    obtain ⟨a, b', -⟩ := dg_byt (h k (by omega))
    have e : n10 tf b (k + 1) = 10 * n10 tf b k + (byt tf (b + k) - 48) := rfl
    have hp : 10 ^ (k + 1) = 10 * 10 ^ k := by rw [Nat.pow_succ]; omega
    omega
theorem nm_rel {c : Int32} (hk : ky = 0 ∨ ky = 1 ∨ ky = 2) : (0 ≤ nmR ky c ↔ 0 ≤ nmC ky c) ∧ (0 ≤ nmR ky c → 10000 + nmC ky c = xm ky (10000 + nmR ky c) ∧ (∃ j : Nat, j < (if ky = 0 then 4 else 2) ∧ 10000 + nmR ky c = nI (10000 + j))) := by
  rcases hk with rfl | rfl | rfl
  · have e1 : nmR 0 c = if c = 115 then 0 else if c = 112 then 1 else if c = 99 then 2 else if c = 110 then 3 else -1 := if_pos rfl
    have e2 : nmC 0 c = if c = 115 then 0 else if c = 112 then 1 else if c = 99 then 2 else if c = 110 then 3 else -1 := if_pos rfl
    have ex : ∀ x : Int32, xm 0 x = x := fun x => by unfold xm; rw [if_neg (by decide), if_neg (by decide)]
    rw [e1, e2, ex]
    refine ⟨Iff.rfl, fun h => ⟨rfl, ?_⟩⟩
    by_cases c1 : c = 115
    · rw [if_pos c1]; exact ⟨0, by decide, rfl⟩
    · rw [if_neg c1] at h ⊢
      by_cases c2 : c = 112
      · rw [if_pos c2]; exact ⟨1, by decide, rfl⟩
      · rw [if_neg c2] at h ⊢
        by_cases c3 : c = 99
        · rw [if_pos c3]; exact ⟨2, by decide, rfl⟩
        · rw [if_neg c3] at h ⊢
          by_cases c4 : c = 110
          · rw [if_pos c4]; exact ⟨3, by decide, rfl⟩
          · rw [if_neg c4] at h; exact absurd h (by decide)
  · have e1 : nmR 1 c = if c = 111 then 0 else if c = 107 then 1 else -1 := by unfold nmR; rw [if_neg (by decide), if_pos rfl]
    have e2 : nmC 1 c = if c = 111 then 4 else if c = 107 then 5 else -1 := by unfold nmC; rw [if_neg (by decide), if_pos rfl]
    rw [e1, e2]
    by_cases c1 : c = 111
    · rw [if_pos c1, if_pos c1]
      exact ⟨by decide, fun _ => ⟨by decide, 0, by decide, rfl⟩⟩
    · rw [if_neg c1, if_neg c1]
      by_cases c2 : c = 107
      · rw [if_pos c2, if_pos c2]
        exact ⟨by decide, fun _ => ⟨by decide, 1, by decide, rfl⟩⟩
      · rw [if_neg c2, if_neg c2]
        exact ⟨Iff.rfl, fun h => absurd h (by decide)⟩
  · have e1 : nmR 2 c = if c = 115 then 0 else if c = 99 then 1 else -1 := by unfold nmR; rw [if_neg (by decide), if_neg (by decide)]
    have e2 : nmC 2 c = if c = 115 then 0 else if c = 99 then 2 else -1 := by unfold nmC; rw [if_neg (by decide), if_neg (by decide)]
    rw [e1, e2]
    by_cases c1 : c = 115
    · rw [if_pos c1, if_pos c1]
      exact ⟨by decide, fun _ => ⟨by decide, 0, by decide, rfl⟩⟩
    · rw [if_neg c1, if_neg c1]
      by_cases c2 : c = 99
      · rw [if_pos c2, if_pos c2]
        exact ⟨by decide, fun _ => ⟨by decide, 1, by decide, rfl⟩⟩
      · rw [if_neg c2, if_neg c2]
        exact ⟨Iff.rfl, fun h => absurd h (by decide)⟩
theorem chF_1 {n : Nat} (h1 : 1 ≤ n) (h2 : n ≤ 26) : chF (lN n) = nI (96 + n) ∧ ¬ 26 < lN n ∧ ¬ lN n < 1 := by
  have : ∀ k : Fin 27, 1 ≤ k.val → chF (lN k.val) = nI (96 + k.val) ∧ ¬ 26 < lN k.val ∧ ¬ lN k.val < 1 := by decide +kernel
  exact this ⟨n, by omega⟩ h1
/-- a word of letters as a name -/
theorem name_let {j : Nat} (h : tkA tf tp j = 1) : (atA tf tp j - bgA tf tp j = 1 → nameF ky (tkA tf tp j) (vaA tf tp j) = nmR ky (tf (bgA tf tp j))) ∧ (¬ atA tf tp j - bgA tf tp j = 1 → nameF ky (tkA tf tp j) (vaA tf tp j) = -1) := by
  obtain ⟨hl, ha, hv⟩ := (kinds (tf := tf) (tp := tp) j).2.1 h
  have hlt := (lxs_rng (tf := tf) (tp := tp) j).2.2.2 (by rw [h]; decide)
  have hall : ∀ i, i < atA tf tp j - bgA tf tp j → isLt (tf (bgA tf tp j + i)) := fun i hi => endL_all (tp := tp) (b := bgA tf tp j) _ (by omega) (by rw [← ha]; omega)
  unfold nameF
  rw [hv, h]
  constructor
  · intro e1
    rw [e1]
    obtain ⟨b1, b2, b3⟩ := lt_byt hl
    have e2 : v27 tf (bgA tf tp j) 1 = lN (byt tf (bgA tf tp j) - 96) := by
      unfold v27
      rw [if_pos (by omega)]
      show lN (27 * 0 + (byt tf (bgA tf tp j + 0) - 96)) = _
      rw [Nat.add_zero]; congr 1; omega
    obtain ⟨c1, c2, c3⟩ := chF_1 (n := byt tf (bgA tf tp j) - 96) (by omega) (by omega)
    rw [e2, if_pos ⟨rfl, c2, c3⟩, c1, show 96 + (byt tf (bgA tf tp j) - 96) = byt tf (bgA tf tp j) by omega, ← b3]
  · intro e1
    refine if_neg (fun z => ?_)
    unfold v27 at z
    by_cases q : atA tf tp j - bgA tf tp j ≤ 9
    · rw [if_pos q] at z
      have h1 := (n27_rng _ hall).2 (by omega)
      have h2 := (n27_rng _ hall).1
      have h3 : 27 ^ (atA tf tp j - bgA tf tp j) ≤ 27 ^ 9 := Nat.pow_le_pow_right (by omega) q
      have h4 : 27 ^ 1 ≤ 27 ^ (atA tf tp j - bgA tf tp j - 1) := Nat.pow_le_pow_right (by omega) (by omega)
      have h5 := pow27
      exact z.2.1 ((pk_lLT (a := 26) (by omega) (by omega)).mpr (by omega))
    · rw [if_neg q] at z
      exact z.2.2 (by decide)
theorem num_dig {j : Nat} (h : tkA tf tp j = 2) : (atA tf tp j - bgA tf tp j ≤ 4 → numP (tkA tf tp j) (vaA tf tp j) ∧ (vaA tf tp j).toInt32 = n10I tf (bgA tf tp j) (atA tf tp j - bgA tf tp j) ∧ n10 tf (bgA tf tp j) (atA tf tp j - bgA tf tp j) < 10000) ∧ (¬ atA tf tp j - bgA tf tp j ≤ 4 → ¬ numP (tkA tf tp j) (vaA tf tp j)) := by
  obtain ⟨hd, hl, ha, hv⟩ := (kinds (tf := tf) (tp := tp) j).2.2 h
  have hall : ∀ i, i < atA tf tp j - bgA tf tp j → isDg (tf (bgA tf tp j + i)) := fun i hi => endD_all (tp := tp) (b := bgA tf tp j) _ (by omega) (by rw [← ha]; omega)
  constructor
  · intro h4
    have h1 := n10_lt _ hall
    have h2 : 10 ^ (atA tf tp j - bgA tf tp j) ≤ 10 ^ 4 := Nat.pow_le_pow_right (by omega) h4
    have e4 : (10 : Nat) ^ 4 = 10000 := by decide
    have e : vaA tf tp j = lN (n10 tf (bgA tf tp j) (atA tf tp j - bgA tf tp j)) := by rw [hv]; exact if_pos h4
    refine ⟨⟨h, ?_⟩, ?_, by omega⟩
    · rw [e]; exact (pk_lLT (b := 10000) (by omega) (by omega)).mpr (by omega)
    · rw [e, lN_i]; rfl
  · intro h4 z
    have e : vaA tf tp j = 10000 := by rw [hv]; exact if_neg h4
    have h2 := z.2
    rw [e] at h2
    exact absurd h2 (by decide)
abbrev vcd (tf : DD) (tp : Nat) (ky : Int32) (j : Nat) : Int32 := if numP (tkA tf tp j) (vaA tf tp j) then (vaA tf tp j).toInt32 else 10000 + nameF ky (tkA tf tp j) (vaA tf tp j)
theorem nI_cok {n : Nat} (h : n < 10000) : cOK ky (nI n) ∧ nI n < 20000 ∧ xm ky (nI n) = nI n := by
  refine ⟨Or.inl (nI_lt (b := 10000) h (by omega)), nI_lt (b := 20000) (by omega) (by omega), ?_⟩
  have h1 : ¬ nI n = 10000 := fun z => by have := (nI_eq (b := 10000) (by omega) (by omega)).mp z; omega
  have h2 : ¬ nI n = 10001 := fun z => by have := (nI_eq (b := 10001) (by omega) (by omega)).mp z; omega
  unfold xm
  rw [if_neg h1, if_neg h2, if_neg h2, ite_self, ite_self]
theorem nm_cok {j : Nat} {x : Int32} (h : j < (if ky = 0 then 4 else 2)) (e : x = nI (10000 + j)) : cOK ky x ∧ x < 20000 := by
  refine ⟨Or.inr (Or.inl ⟨j, h, e⟩), ?_⟩
  have : j < 4 := by by_cases z : ky = 0; rw [if_pos z] at h; exact h; rw [if_neg z] at h; omega
  rw [e]; exact nI_lt (b := 20000) (by omega) (by omega)
theorem val_yes {j : Nat} (hk : ky = 0 ∨ ky = 1 ∨ ky = 2) (h : numP (tkA tf tp j) (vaA tf tp j) ∨ 0 ≤ nameF ky (tkA tf tp j) (vaA tf tp j)) : (∀ s : MS, s.1 = false → stpM tf tp ky j s = some (valM (xm ky (vcd tf tp ky j)) s)) ∧ cOK ky (vcd tf tp ky j) ∧ vcd tf tp ky j < 20000 := by
  have hst : ∀ s : MS, s.1 = false → (tkA tf tp j = 1 ∨ tkA tf tp j = 2) → stpM tf tp ky j s = pceM tf ky (bgA tf tp j) (atA tf tp j) s := fun s hs ht => by
    unfold stpM
    rw [if_neg (fun z => by rcases ht with t | t <;> rcases z with y | y <;> rw [t] at y <;> exact absurd y (by decide)), if_neg (by rw [hs]; decide)]
  by_cases h2 : tkA tf tp j = 2
  · have h4 : atA tf tp j - bgA tf tp j ≤ 4 := by
      rcases h with z | z
      · exact Decidable.byContradiction (fun y => (num_dig h2).2 y z)
      · exfalso
        have : nameF ky (tkA tf tp j) (vaA tf tp j) = -1 := if_neg (fun y => by have := y.1; rw [h2] at this; exact absurd this (by decide))
        rw [this] at z; exact absurd z (by decide)
    obtain ⟨a, b, c⟩ := (num_dig h2).1 h4
    obtain ⟨hd, hl, -, -⟩ := (kinds (tf := tf) (tp := tp) j).2.2 h2
    have e : vcd tf tp ky j = nI (n10 tf (bgA tf tp j) (atA tf tp j - bgA tf tp j)) := by unfold vcd; rw [if_pos a]; exact b
    obtain ⟨c1, c2, c3⟩ := nI_cok (ky := ky) c
    rw [e]
    refine ⟨fun s hs => ?_, c1, c2⟩
    rw [hst s hs (Or.inr h2), c3]
    unfold pceM
    rw [if_neg hl, if_pos hd, if_pos h4]; rfl
  · have hn : ¬ numP (tkA tf tp j) (vaA tf tp j) := fun z => h2 z.1
    have h0 : 0 ≤ nameF ky (tkA tf tp j) (vaA tf tp j) := h.resolve_left hn
    have h1 : tkA tf tp j = 1 := Decidable.byContradiction (fun y => by
      have : nameF ky (tkA tf tp j) (vaA tf tp j) = -1 := if_neg (fun w => y w.1)
      rw [this] at h0; exact absurd h0 (by decide))
    have he : atA tf tp j - bgA tf tp j = 1 := Decidable.byContradiction (fun y => by
      have := (name_let (ky := ky) h1).2 y
      rw [this] at h0; exact absurd h0 (by decide))
    have hnm := (name_let (ky := ky) h1).1 he
    obtain ⟨hl, -, -⟩ := (kinds (tf := tf) (tp := tp) j).2.1 h1
    rw [hnm] at h0
    obtain ⟨r1, r2⟩ := nm_rel (c := tf (bgA tf tp j)) hk
    obtain ⟨x1, jj, hj, x2⟩ := r2 h0
    have e : vcd tf tp ky j = 10000 + nmR ky (tf (bgA tf tp j)) := by unfold vcd; rw [if_neg hn, hnm]
    obtain ⟨c1, c2⟩ := nm_cok hj x2
    rw [e]
    refine ⟨fun s hs => ?_, c1, c2⟩
    rw [hst s hs (Or.inl h1), ← x1]
    unfold pceM
    rw [if_pos hl, if_pos ⟨he, r1.mp h0⟩]
theorem val_no {j : Nat} (hk : ky = 0 ∨ ky = 1 ∨ ky = 2) (h : ¬ (numP (tkA tf tp j) (vaA tf tp j) ∨ 0 ≤ nameF ky (tkA tf tp j) (vaA tf tp j))) (h33 : ¬ (tkA tf tp j = 3 ∧ tf (bgA tf tp j) = 33)) (h40 : ¬ (tkA tf tp j = 3 ∧ tf (bgA tf tp j) = 40)) : ∀ s : MS, s.1 = false → stpM tf tp ky j s = none := by
  intro s hs
  unfold stpM
  by_cases h04 : tkA tf tp j = 0 ∨ tkA tf tp j = 4
  · rw [if_pos h04]
  · rw [if_neg h04, if_neg (by rw [hs]; decide)]
    unfold pceM
    rcases (kinds (tf := tf) (tp := tp) j).1 with z | z | z | z | z
    · exact absurd (Or.inl z) h04
    · obtain ⟨hl, -, -⟩ := (kinds (tf := tf) (tp := tp) j).2.1 z
      rw [if_pos hl]
      refine if_neg (fun y => h (Or.inr ?_))
      rw [(name_let (ky := ky) z).1 y.1]
      exact (nm_rel hk).1.mpr y.2
    · obtain ⟨hd, hl, -, -⟩ := (kinds (tf := tf) (tp := tp) j).2.2 z
      rw [if_neg hl, if_pos hd]
      exact if_neg (fun y => h (Or.inl ((num_dig z).1 y).1))
    · obtain ⟨-, hl, hd⟩ := tk3 z
      rw [if_neg hl, if_neg hd, if_neg (fun y => h40 ⟨z, y.1⟩), if_neg (fun y => h33 ⟨z, y.1⟩)]
    · exact absurd (Or.inr z) h04
end PAR4
