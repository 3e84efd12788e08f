/-! the key's word, both ways -/
def w256 (tf : DD) (b k : Nat) : Nat := itn (fun i w => w * 256 + byt tf (b + i)) k 0
abbrev BY (tf : DD) (tp : Nat) : Prop := ∀ j, j < tp → 0 ≤ tf j ∧ tf j ≤ 255
theorem by_byt {tf : DD} {tp j : Nat} (h : BY tf tp) (hj : j < tp) : byt tf j ≤ 255 ∧ tf j = nI (byt tf j) := by
  obtain ⟨a, ha, e⟩ := rng_nat (m := 255) (by omega) (h j hj).1 (h j hj).2
  unfold byt
  rw [e, nI_clamp (by omega)]
  exact ⟨ha, rfl⟩
theorem shl8_or {n x : Nat} (hn : n < 8388608) (hx : x < 256) : (nI n <<< ((8 : Int32) &&& 31)) ||| nI x = nI (n * 256 + x) := by
  have h1 : nI n <<< ((8 : Int32) &&& 31) = nI (n * 256) := pk_shlN _ 8 (by decide) (by omega)
  rw [h1]
  apply Int32.toBitVec_inj.mp
  rw [Int32.toBitVec_or]
  apply BitVec.eq_of_toNat_eq
  rw [BitVec.toNat_or, pk_tn (by omega), pk_tn (by omega), pk_tn (by omega)]
  have := Nat.two_pow_add_eq_or_of_lt (i := 8) (b := x) (by omega) n
  rw [show 2 ^ 8 * n = n * 256 by omega] at this
  exact this.symm
theorem word_s {tf : DD} {b k : Nat} : wordF tf b (k + 1) = (wordF tf b k <<< ((8 : Int32) &&& 31)) ||| tf (b + k) := rfl
theorem w256_s {tf : DD} {b k : Nat} : w256 tf b (k + 1) = w256 tf b k * 256 + byt tf (b + k) := rfl
theorem w256_lt {tf : DD} {tp b : Nat} (h : BY tf tp) : ∀ k, b + k ≤ tp → w256 tf b k < 256 ^ k
  | 0, _ => by show 0 < 1; omega
  | k + 1, hk => by
    have ih := w256_lt (b := b) h k (by omega)
    have h1 := (by_byt h (j := b + k) (by omega)).1
    have e := w256_s (tf := tf) (b := b) (k := k)
    have hp : 256 ^ (k + 1) = 256 ^ k * 256 := Nat.pow_succ ..
    rw [e, hp]
    omega
theorem word_nat {tf : DD} {tp b : Nat} (h : BY tf tp) : ∀ k, k ≤ 3 → b + k ≤ tp → wordF tf b k = nI (w256 tf b k)
  | 0, _, _ => rfl
  | k + 1, hk, hb => by
    have ih := word_nat (b := b) h k (by omega) (by omega)
    obtain ⟨h1, h2⟩ := by_byt h (j := b + k) (by omega)
    have hl := w256_lt (b := b) h k (by omega)
    have hp : 256 ^ k ≤ 256 ^ 2 := Nat.pow_le_pow_right (by omega) (by omega)
    have e2 : (256 : Nat) ^ 2 = 65536 := by decide
    rw [word_s, ih, h2, shl8_or (by omega) (by omega), w256_s]
theorem word_4 {tf : DD} {tp b : Nat} (h : BY tf tp) (hb : b + 4 ≤ tp) (hc : byt tf b ≤ 122) : wordF tf b 4 = nI (w256 tf b 4) ∧ w256 tf b 3 ≤ 122 * 65536 + 65535 := by
  have h0 : w256 tf b 1 = byt tf b := by show 0 * 256 + byt tf (b + 0) = _; rw [Nat.add_zero]; omega
  have h1 := (by_byt h (j := b + 1) (by omega)).1
  have h2 := (by_byt h (j := b + 2) (by omega)).1
  obtain ⟨h3, h4⟩ := by_byt h (j := b + 3) (by omega)
  have e2 := w256_s (tf := tf) (b := b) (k := 1)
  have e3 := w256_s (tf := tf) (b := b) (k := 2)
  have hb3 : w256 tf b 3 ≤ 122 * 65536 + 65535 := by
    have e3' : w256 tf b 3 = w256 tf b 2 * 256 + byt tf (b + 2) := e3
    have e2' : w256 tf b 2 = w256 tf b 1 * 256 + byt tf (b + 1) := e2
    omega
  refine ⟨?_, hb3⟩
  rw [show wordF tf b 4 = (wordF tf b 3 <<< ((8 : Int32) &&& 31)) ||| tf (b + 3) from rfl, word_nat h 3 (by omega) (by omega), h4, shl8_or (by omega) (by omega)]
  rfl
/-- the numbers that the two ways compare -/
theorem key_num {tf : DD} {tp b k : Nat} (h : BY tf tp) (hk : b + k ≤ tp) (h4 : k ≤ 4) (hc : byt tf b ≤ 122) : ∃ w, w = w256 tf b k ∧ w < 2147483648 ∧ wordF tf b k = nI w := by
  rcases Nat.lt_or_ge k 4 with z | z
  · have hl := w256_lt (b := b) h k hk
    have hp : 256 ^ k ≤ 256 ^ 3 := Nat.pow_le_pow_right (by omega) (by omega)
    have e2 : (256 : Nat) ^ 3 = 16777216 := by decide
    exact ⟨_, rfl, by omega, word_nat h k (by omega) hk⟩
  · have e : k = 4 := by omega
    subst e
    obtain ⟨h1, h2⟩ := word_4 h hk hc
    have h3 := (by_byt h (j := b + 3) (by omega)).1
    have e3 := w256_s (tf := tf) (b := b) (k := 3)
    have e3' : w256 tf b 4 = w256 tf b 3 * 256 + byt tf (b + 3) := e3
    exact ⟨_, rfl, by omega, h1⟩
theorem keyM_none {tf : DD} {tp b e : Nat} (h : BY tf tp) (hbe : b ≤ e) (he : e ≤ tp) (hc : e - b ≤ 4 → byt tf b ≤ 122) (hn : e - b ≤ 4 → w256 tf b (e - b) ≠ 6710629 ∧ w256 tf b (e - b) ≠ 6711668 ∧ w256 tf b (e - b) ≠ 1718185573) : keyM tf b e = -1 := by
  unfold keyM
  by_cases q : e - b ≤ 4
  · obtain ⟨w, hw, hw2, e1⟩ := key_num (b := b) (k := e - b) h (by omega) q (hc q)
    obtain ⟨n1, n2, n3⟩ := hn q
    rw [if_pos q, e1]
    rw [if_neg (fun z => n1 (by rw [← hw]; exact (nI_eq (b := 6710629) hw2 (by omega)).mp z)), if_neg (fun z => n2 (by rw [← hw]; exact (nI_eq (b := 6711668) hw2 (by omega)).mp z)), if_neg (fun z => n3 (by rw [← hw]; exact (nI_eq (b := 1718185573) hw2 (by omega)).mp z))]
  · rw [if_neg q]; decide
/-- digits and signs are no key -/
theorem key_dig {tf : DD} {b k : Nat} (hk : k ≤ 4) (h : ∀ i, i < k → 48 ≤ byt tf (b + i) ∧ byt tf (b + i) ≤ 57) : w256 tf b k ≠ 6710629 ∧ w256 tf b k ≠ 6711668 ∧ w256 tf b k ≠ 1718185573 := by
  have e1 : w256 tf b 1 = 0 * 256 + byt tf (b + 0) := rfl
  have e2 : w256 tf b 2 = w256 tf b 1 * 256 + byt tf (b + 1) := rfl
  have e3 : w256 tf b 3 = w256 tf b 2 * 256 + byt tf (b + 2) := rfl
  have e4 : w256 tf b 4 = w256 tf b 3 * 256 + byt tf (b + 3) := rfl
  rcases (show k = 0 ∨ k = 1 ∨ k = 2 ∨ k = 3 ∨ k = 4 by omega) with rfl | rfl | rfl | rfl | rfl
  · exact ⟨show (0 : Nat) ≠ 6710629 by decide, show (0 : Nat) ≠ 6711668 by decide, show (0 : Nat) ≠ 1718185573 by decide⟩
  · have := h 0 (by omega); omega
  · have := h 0 (by omega); have := h 1 (by omega); omega
  · have := h 0 (by omega); have := h 1 (by omega); have := h 2 (by omega); omega
  · have := h 0 (by omega); have := h 1 (by omega); have := h 2 (by omega); have := h 3 (by omega); omega
/-- a word of letters: the same three -/
theorem key_let {tf : DD} {b k : Nat} (h0 : 0 < k) (hk : k ≤ 4) (h : ∀ i, i < k → 97 ≤ byt tf (b + i) ∧ byt tf (b + i) ≤ 122) : (w256 tf b k = 6710629 ↔ n27 tf b k = 4514) ∧ (w256 tf b k = 6711668 ↔ n27 tf b k = 4637) ∧ (w256 tf b k = 1718185573 ↔ n27 tf b k = 125042) := by
  have e1 : w256 tf b 1 = 0 * 256 + byt tf (b + 0) := rfl
  have e2 : w256 tf b 2 = w256 tf b 1 * 256 + byt tf (b + 1) := rfl
  have e3 : w256 tf b 3 = w256 tf b 2 * 256 + byt tf (b + 2) := rfl
  have e4 : w256 tf b 4 = w256 tf b 3 * 256 + byt tf (b + 3) := rfl
  have f1 : n27 tf b 1 = 27 * 0 + (byt tf (b + 0) - 96) := rfl
  have f2 : n27 tf b 2 = 27 * n27 tf b 1 + (byt tf (b + 1) - 96) := rfl
  have f3 : n27 tf b 3 = 27 * n27 tf b 2 + (byt tf (b + 2) - 96) := rfl
  have f4 : n27 tf b 4 = 27 * n27 tf b 3 + (byt tf (b + 3) - 96) := rfl
  rcases (show k = 1 ∨ k = 2 ∨ k = 3 ∨ k = 4 by omega) with rfl | rfl | rfl | rfl
  · have := h 0 (by omega); omega
  · have := h 0 (by omega); have := h 1 (by omega); omega
  · have := h 0 (by omega); have := h 1 (by omega); have := h 2 (by omega); omega
  · have := h 0 (by omega); have := h 1 (by omega); have := h 2 (by omega); have := h 3 (by omega); omega
theorem key_same {tf : DD} {tp : Nat} (hb : BY tf tp) : kyM tf tp = kyT tf tp := by
  have hs := skipB_le (tf := tf) (tp := tp) (at_ := 0) (Nat.zero_le _)
  have hB : bgA tf tp 0 = skipB tf tp 0 := lex_b
  have hr := lxs_rng (tf := tf) (tp := tp) 0
  unfold kyM
  by_cases q : skipB tf tp 0 = tp
  · have hE := lx_end (tf := tf) (bw := 0) rfl q
    have h1 : tkA tf tp 0 = 0 := by show (lexF tf tp 0 0).2.2.2.1 = 0; rw [hE]
    have h2 : kyT tf tp = -1 := by unfold kyT keyF; rw [h1, if_neg (fun z => absurd z.1 (by decide)), if_neg (fun z => absurd z.1 (by decide)), if_neg (fun z => absurd z.1 (by decide))]
    have h3 : atA tf tp 0 - bgA tf tp 0 = 0 := by rw [hB, q]; omega
    rw [h2]
    have e0 : wordF tf (bgA tf tp 0) 0 = 0 := rfl
    unfold keyM
    rw [h3, e0]; decide
  · have hlt : skipB tf tp 0 < tp := by omega
    have hne : ¬ (0 < skipB tf tp 0 ∧ skipB tf tp 0 = 0) := fun z => by omega
    by_cases hl : isLt (tf (skipB tf tp 0))
    · have hE := lx_let (tf := tf) (bw := 0) rfl q hl rfl
      rw [if_neg hne] at hE
      have h1 : tkA tf tp 0 = 1 := by show (lexF tf tp 0 0).2.2.2.1 = 1; rw [hE]
      have ha : atA tf tp 0 = endL tf tp (skipB tf tp 0) := by show (lexF tf tp 0 0).2.1 = _; rw [hE]
      have hv : vaA tf tp 0 = v27 tf (skipB tf tp 0) (endL tf tp (skipB tf tp 0) - skipB tf tp 0) := by show (lexF tf tp 0 0).2.2.2.2 = _; rw [hE]
      have hlen := hr.2.2.2 (by rw [h1]; decide)
      rw [hB, ha]
      rw [hB, ha] at hlen
      rw [ha] at hr
      generalize hbv : skipB tf tp 0 = b at *
      generalize hev : endL tf tp b = e at *
      have hall : ∀ i, i < e - b → isLt (tf (b + i)) := fun i hi => endL_all (tp := tp) (b := b) _ (by omega) (by omega)
      have hby : ∀ i, i < e - b → 97 ≤ byt tf (b + i) ∧ byt tf (b + i) ≤ 122 := fun i hi => ⟨(lt_byt (hall i hi)).1, (lt_byt (hall i hi)).2.1⟩
      have hc : byt tf b ≤ 122 := by have := (hby 0 (by omega)).2; rwa [Nat.add_zero] at this
      unfold kyT keyF
      rw [h1, hv]
      by_cases h4 : e - b ≤ 4
      · obtain ⟨w, hw, hw2, e1⟩ := key_num (b := b) (k := e - b) hb (by have := hr.2.1; omega) h4 hc
        obtain ⟨k1, k2, k3⟩ := key_let (tf := tf) (b := b) (k := e - b) (by omega) h4 hby
        have hv2 : v27 tf b (e - b) = lN (n27 tf b (e - b)) := if_pos (by omega)
        have hn := (n27_rng _ hall).1
        have hp : 27 ^ (e - b) ≤ 27 ^ 4 := Nat.pow_le_pow_right (by omega) h4
        have e27 : (27 : Nat) ^ 4 = 531441 := by decide
        have q1 : (v27 tf b (e - b) = 4637) ↔ n27 tf b (e - b) = 4637 := by rw [hv2]; exact pk_lEQ (b := 4637) (by omega) (by omega)
        have q2 : (v27 tf b (e - b) = 4514) ↔ n27 tf b (e - b) = 4514 := by rw [hv2]; exact pk_lEQ (b := 4514) (by omega) (by omega)
        have q3 : (v27 tf b (e - b) = 125042) ↔ n27 tf b (e - b) = 125042 := by rw [hv2]; exact pk_lEQ (b := 125042) (by omega) (by omega)
        have p1 : (wordF tf b (e - b) = 6710629) ↔ n27 tf b (e - b) = 4514 := by rw [e1, ← k1, ← hw]; exact nI_eq (b := 6710629) hw2 (by omega)
        have p2 : (wordF tf b (e - b) = 6711668) ↔ n27 tf b (e - b) = 4637 := by rw [e1, ← k2, ← hw]; exact nI_eq (b := 6711668) hw2 (by omega)
        have p3 : (wordF tf b (e - b) = 1718185573) ↔ n27 tf b (e - b) = 125042 := by rw [e1, ← k3, ← hw]; exact nI_eq (b := 1718185573) hw2 (by omega)
        unfold keyM
        rw [if_pos h4]
        by_cases x1 : n27 tf b (e - b) = 4514
        · rw [if_pos (p1.mpr x1), if_neg (fun z => by have := q1.mp z.2; omega), if_pos ⟨rfl, q2.mpr x1⟩]
        · rw [if_neg (fun z => x1 (p1.mp z))]
          by_cases x2 : n27 tf b (e - b) = 4637
          · rw [if_pos (p2.mpr x2), if_pos ⟨rfl, q1.mpr x2⟩]
          · rw [if_neg (show ¬ wordF tf b (e - b) = 6711668 from fun z => x2 (p2.mp z))]
            have y1 : ¬ ((1 : Int32) = 1 ∧ v27 tf b (e - b) = 4637) := fun z => x2 (q1.mp z.2)
            have y2 : ¬ ((1 : Int32) = 1 ∧ v27 tf b (e - b) = 4514) := fun z => x1 (q2.mp z.2)
            by_cases x3 : n27 tf b (e - b) = 125042
            · rw [if_pos (p3.mpr x3), if_neg y1, if_neg y2, if_pos ⟨rfl, q3.mpr x3⟩]
            · rw [if_neg (show ¬ wordF tf b (e - b) = 1718185573 from fun z => x3 (p3.mp z)), if_neg y1, if_neg y2, if_neg (fun z => x3 (q3.mp z.2))]
      · have hno : ∀ n : Nat, n ≤ 125042 → ¬ v27 tf b (e - b) = lN n := fun n hn z => by
          obtain ⟨h9, h10⟩ := v27_lN hall (by omega) z
          have h11 := (n27_rng _ hall).2 (by omega)
          have hp : 27 ^ 4 ≤ 27 ^ (e - b - 1) := Nat.pow_le_pow_right (by omega) (by omega)
          have e27 : (27 : Nat) ^ 4 = 531441 := by decide
          omega
        rw [if_neg (fun z => hno 4637 (by omega) z.2), if_neg (fun z => hno 4514 (by omega) z.2), if_neg (fun z => hno 125042 (by omega) z.2)]
        unfold keyM
        rw [if_neg h4]; decide
    · have hT : kyT tf tp = -1 := by
        have h1 : ¬ tkA tf tp 0 = 1 := by
          show ¬ (lexF tf tp 0 0).2.2.2.1 = 1
          by_cases hd : isDg (tf (skipB tf tp 0))
          · rw [lx_dig (tf := tf) (bw := 0) rfl q hl hd rfl, if_neg hne]; show ¬ (2 : Int32) = 1; decide
          · rw [lx_sgn (tf := tf) (bw := 0) rfl q hl hd]; show ¬ (3 : Int32) = 1; decide
        unfold kyT keyF
        rw [if_neg (fun z => h1 z.1), if_neg (fun z => h1 z.1), if_neg (fun z => h1 z.1)]
      rw [hT]
      by_cases hd : isDg (tf (skipB tf tp 0))
      · have ha : atA tf tp 0 = endD tf tp (skipB tf tp 0) := by show (lexF tf tp 0 0).2.1 = _; rw [lx_dig (tf := tf) (bw := 0) rfl q hl hd rfl]
        have hdl : ∀ i, i < atA tf tp 0 - bgA tf tp 0 → 48 ≤ byt tf (bgA tf tp 0 + i) ∧ byt tf (bgA tf tp 0 + i) ≤ 57 := fun i hi => by
          have := dg_byt (endD_all (tf := tf) (tp := tp) (b := skipB tf tp 0) (bgA tf tp 0 + i) (by rw [hB]; omega) (by rw [← ha]; omega))
          exact ⟨this.1, this.2.1⟩
        refine keyM_none hb hr.1 hr.2.1 (fun _ => ?_) (fun h4 => key_dig h4 hdl)
        have := dg_byt hd
        rw [hB]; omega
      · have ha : atA tf tp 0 = skipB tf tp 0 + 1 := by show (lexF tf tp 0 0).2.1 = _; rw [lx_sgn (tf := tf) (bw := 0) rfl q hl hd]
        have hk : atA tf tp 0 - bgA tf tp 0 = 1 := by rw [hB]; omega
        have h1 := by_byt hb hlt
        unfold keyM
        rw [hk, hB]
        have e1 : wordF tf (skipB tf tp 0) 1 = nI (byt tf (skipB tf tp 0)) := by
          rw [word_nat hb 1 (by omega) (by omega)]
          show nI (0 * 256 + byt tf (skipB tf tp 0 + 0)) = _
          rw [Nat.add_zero]; congr 1; omega
        have e2 : (if 1 ≤ 4 then wordF tf (skipB tf tp 0) 1 else 0) = nI (byt tf (skipB tf tp 0)) := by rw [if_pos (by decide)]; exact e1
        rw [e2, if_neg (show ¬ nI (byt tf (skipB tf tp 0)) = 6710629 from fun z => by have := (nI_eq (b := 6710629) (by omega) (by omega)).mp z; omega), if_neg (show ¬ nI (byt tf (skipB tf tp 0)) = 6711668 from fun z => by have := (nI_eq (b := 6711668) (by omega) (by omega)).mp z; omega), if_neg (show ¬ nI (byt tf (skipB tf tp 0)) = 1718185573 from fun z => by have := (nI_eq (b := 1718185573) (by omega) (by omega)).mp z; omega)]
theorem key_eq {tf : DD} {tp : Nat} (hb : BY tf tp) (h : 0 ≤ kyM tf tp) : 3 ≤ atA tf tp 0 ∧ tkA tf tp 0 = 1 := by
  rw [key_same hb] at h
  exact key_len h
