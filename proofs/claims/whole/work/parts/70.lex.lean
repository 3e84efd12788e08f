/-! words and signs of the tape -/
abbrev isLt (c : Int32) : Prop := 97 ≤ c ∧ c ≤ 122
abbrev isDg (c : Int32) : Prop := 48 ≤ c ∧ c ≤ 57
def byt (tf : DD) (j : Nat) : Nat := (tf j).toNatClampNeg
def skipB (tf : DD) (tp at_ : Nat) : Nat := lst (fun j => ¬ tf j = 32) (tp - at_) at_
def endL (tf : DD) (tp b : Nat) : Nat := lst (fun j => ¬ isLt (tf j)) (tp - b) b
def endD (tf : DD) (tp b : Nat) : Nat := lst (fun j => ¬ isDg (tf j)) (tp - b) b
def n27 (tf : DD) (b k : Nat) : Nat := itn (fun i v => 27 * v + (byt tf (b + i) - 96)) k 0
def n10 (tf : DD) (b k : Nat) : Nat := itn (fun i v => 10 * v + (byt tf (b + i) - 48)) k 0
def v27 (tf : DD) (b k : Nat) : Int64 := if k ≤ 9 then lN (n27 tf b k) else -1
def v10 (tf : DD) (b k : Nat) : Int64 := if k ≤ 4 then lN (n10 tf b k) else 10000
/-- begun, at, behind a word, token, value -/
abbrev LX : Type := Nat × Nat × Nat × Int32 × Int64
def lexF (tf : DD) (tp at_ bw : Nat) : LX :=
  if skipB tf tp at_ = tp then (skipB tf tp at_, skipB tf tp at_, bw, 0, 0)
  else if isLt (tf (skipB tf tp at_)) then (skipB tf tp at_, endL tf tp (skipB tf tp at_), endL tf tp (skipB tf tp at_), if 0 < skipB tf tp at_ ∧ skipB tf tp at_ = bw then 4 else 1, v27 tf (skipB tf tp at_) (endL tf tp (skipB tf tp at_) - skipB tf tp at_))
  else if isDg (tf (skipB tf tp at_)) then (skipB tf tp at_, endD tf tp (skipB tf tp at_), endD tf tp (skipB tf tp at_), if 0 < skipB tf tp at_ ∧ skipB tf tp at_ = bw then 4 else 2, v10 tf (skipB tf tp at_) (endD tf tp (skipB tf tp at_) - skipB tf tp at_))
  else (skipB tf tp at_, skipB tf tp at_ + 1, bw, 3, (tf (skipB tf tp at_)).toInt64)
theorem lt_byt {tf : DD} {j : Nat} (h : isLt (tf j)) : 97 ≤ byt tf j ∧ byt tf j ≤ 122 ∧ tf j = nI (byt tf j) := by
  obtain ⟨a, ha, e⟩ := rng_nat (m := 122) (by omega) (Int32.le_trans (by decide) h.1) h.2
  have h1 := h.1
  unfold byt
  rw [e, nI_clamp (by omega)]
  rw [e, show (97 : Int32) = nI 97 from rfl, nI_leI (by omega) (by omega)] at h1
  exact ⟨h1, ha, rfl⟩
theorem dg_byt {tf : DD} {j : Nat} (h : isDg (tf j)) : 48 ≤ byt tf j ∧ byt tf j ≤ 57 ∧ tf j = nI (byt tf j) := by
  obtain ⟨a, ha, e⟩ := rng_nat (m := 57) (by omega) (Int32.le_trans (by decide) h.1) h.2
  have h1 := h.1
  unfold byt
  rw [e, nI_clamp (by omega)]
  rw [e, show (48 : Int32) = nI 48 from rfl, nI_leI (by omega) (by omega)] at h1
  exact ⟨h1, ha, rfl⟩
theorem v27_s {tf : DD} {b k : Nat} (hk : k < 9) (h : isLt (tf (b + k))) : 27 * v27 tf b k + (tf (b + k)).toInt64 - 97 + 1 = v27 tf b (k + 1) := by
  obtain ⟨h1, h2, e⟩ := lt_byt h
  unfold v27
  rw [if_pos (by omega), if_pos (by omega), e, nI_l (by omega), show (27 : Int64) = lN 27 from rfl, show (97 : Int64) = lN 97 from rfl, show (1 : Int64) = lN 1 from rfl, lN_mul, lN_add, lN_sub (by omega), lN_add]
  congr 1
  show _ = 27 * n27 tf b k + (byt tf (b + k) - 96)
  omega
theorem v27_big {tf : DD} {b k : Nat} (hk : 9 < k) : -1 = v27 tf b k := by unfold v27; rw [if_neg (by omega)]
theorem v10_s {tf : DD} {b k : Nat} (hk : k < 4) (h : isDg (tf (b + k))) : 10 * v10 tf b k + (tf (b + k)).toInt64 - 48 = v10 tf b (k + 1) := by
  obtain ⟨h1, h2, e⟩ := dg_byt h
  unfold v10
  rw [if_pos (by omega), if_pos (by omega), e, nI_l (by omega), show (10 : Int64) = lN 10 from rfl, show (48 : Int64) = lN 48 from rfl, lN_mul, lN_add, lN_sub (by omega)]
  congr 1
  show _ = 10 * n10 tf b k + (byt tf (b + k) - 48)
  omega
theorem v10_big {tf : DD} {b k : Nat} (hk : 4 < k) : 10000 = v10 tf b k := by unfold v10; rw [if_neg (by omega)]
theorem lx_end {tf : DD} {tp at_ bw b : Nat} (hb : skipB tf tp at_ = b) (h : b = tp) : lexF tf tp at_ bw = (b, b, bw, 0, 0) := by
  unfold lexF; rw [hb, if_pos h]
theorem lx_let {tf : DD} {tp at_ bw b e : Nat} (hb : skipB tf tp at_ = b) (h : ¬ b = tp) (hl : isLt (tf b)) (he : endL tf tp b = e) : lexF tf tp at_ bw = (b, e, e, if 0 < b ∧ b = bw then 4 else 1, v27 tf b (e - b)) := by
  unfold lexF; rw [hb, if_neg h, if_pos hl, he]
theorem lx_dig {tf : DD} {tp at_ bw b e : Nat} (hb : skipB tf tp at_ = b) (h : ¬ b = tp) (hl : ¬ isLt (tf b)) (hd : isDg (tf b)) (he : endD tf tp b = e) : lexF tf tp at_ bw = (b, e, e, if 0 < b ∧ b = bw then 4 else 2, v10 tf b (e - b)) := by
  unfold lexF; rw [hb, if_neg h, if_neg hl, if_pos hd, he]
theorem lx_sgn {tf : DD} {tp at_ bw b : Nat} (hb : skipB tf tp at_ = b) (h : ¬ b = tp) (hl : ¬ isLt (tf b)) (hd : ¬ isDg (tf b)) : lexF tf tp at_ bw = (b, b + 1, bw, 3, (tf b).toInt64) := by
  unfold lexF; rw [hb, if_neg h, if_neg hl, if_neg hd]
/-! the reference's object, field by field -/
def mF (ad : Nat → Nat) (ik tp at_ bg tk : Int32) (va : Int64) (cd wo ky op nt wr bw wt : Int32) : List Value := [.ref (ad 0), .ref (ad 1), .ref (ad 2), .ref (ad 3), .int ik, .ref (ad 5), .ref (ad 6), .ref (ad 7), .ref (ad 8), .ref (ad 9), .ref (ad 10), .int tp, .int at_, .int bg, .int tk, .long va, .int cd, .int wo, .int ky, .int op, .int nt, .int wr, .int bw, .ref (ad 23), .ref (ad 24), .ref (ad 25), .ref (ad 26), .ref (ad 27), .ref (ad 28), .ref (ad 29), .ref (ad 30), .ref (ad 31), .ref (ad 32), .ref (ad 33), .ref (ad 34), .ref (ad 35), .ref (ad 36), .ref (ad 37), .int wt]
theorem mF_MF {ad : Nat → Nat} {ik tp at_ bg tk : Int32} {va : Int64} {cd wo ky op nt wr bw wt : Int32} : MF ad (mF ad ik tp at_ bg tk va cd wo ky op nt wr bw wt) := by
  refine ⟨rfl, fun k hk => ?_⟩
  have h : k < 38 := by
    unfold mArr at hk
    simp at hk
    omega
  rcases (show k = 0 ∨ k = 1 ∨ k = 2 ∨ k = 3 ∨ k = 4 ∨ k = 5 ∨ k = 6 ∨ k = 7 ∨ k = 8 ∨ k = 9 ∨ k = 10 ∨ k = 11 ∨ k = 12 ∨ k = 13 ∨ k = 14 ∨ k = 15 ∨ k = 16 ∨ k = 17 ∨ k = 18 ∨ k = 19 ∨ k = 20 ∨ k = 21 ∨ k = 22 ∨ k = 23 ∨ k = 24 ∨ k = 25 ∨ k = 26 ∨ k = 27 ∨ k = 28 ∨ k = 29 ∨ k = 30 ∨ k = 31 ∨ k = 32 ∨ k = 33 ∨ k = 34 ∨ k = 35 ∨ k = 36 ∨ k = 37 by omega) with e | e | e | e | e | e | e | e | e | e | e | e | e | e | e | e | e | e | e | e | e | e | e | e | e | e | e | e | e | e | e | e | e | e | e | e | e | e <;> subst e <;> first | rfl | exact absurd hk (by decide)
theorem skipB_le {tf : DD} {tp at_ : Nat} (h : at_ ≤ tp) : skipB tf tp at_ ≤ tp := by have := lst_le (fun j => ¬ tf j = 32) (tp - at_) at_; unfold skipB; omega
