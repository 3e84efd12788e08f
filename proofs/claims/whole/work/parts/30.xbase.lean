/-! the class's terrace, as functions of the reference's row d -/
def col (d : DD) (w : Nat) : DD := fun j => d (10 + 5 * j + w)
def rulF (d : DD) : DD := fun j => if j = 0 then d 2 else if j = 1 then d 3 else d 4
def tF (la : Nat) (ad : Nat → Nat) (hs tx tu no kn nt z : Int32) : List Value := [.ref la, .ref (ad 1), .ref (ad 2), .ref (ad 3), .ref (ad 4), .ref (ad 5), .ref (ad 6), .ref (ad 7), .int hs, .int tx, .int tu, .int no, .int kn, .int nt, .int z]
theorem col_upd (d : DD) (i w : Nat) (v : Int32) : upd (col d w) i v = col (upd d (10 + 5 * i + w) v) w := by
  funext j
  unfold col upd
  by_cases h : j = i
  · simp [h]
  · rw [if_neg h, if_neg (by omega)]
theorem col_ne (d : DD) (i w w' : Nat) (v : Int32) (h : w ≠ w') (h1 : w < 5) (h2 : w' < 5) : col (upd d (10 + 5 * i + w') v) w = col d w := by
  funext j
  unfold col
  exact upd_ne (by omega)
theorem col_lo (d : DD) (k w : Nat) (v : Int32) (h : k < 10) : col (upd d k v) w = col d w := by
  funext j
  unfold col
  exact upd_ne (by omega)
theorem rul_ne (d : DD) (k : Nat) (v : Int32) (h : k < 2 ∨ 4 < k) : rulF (upd d k v) = rulF d := by
  funext j
  unfold rulF
  rw [upd_ne (by omega), upd_ne (by omega), upd_ne (by omega)]
/-- Integer.bitCount, as it is computed -/
def ush (x : Int32) (k : Int32) : Int32 := (x.toUInt32 >>> (k.toUInt32 &&& Int32.toUInt32 31)).toInt32
def bc1 (x : Int32) : Int32 := x - (ush x 1 &&& 1431655765)
def bc2 (x : Int32) : Int32 := (x &&& 858993459) + (ush x 2 &&& 858993459)
def bc3 (x : Int32) : Int32 := (x + ush x 4) &&& 252645135
def bc4 (x : Int32) : Int32 := x + ush x 8
def bc5 (x : Int32) : Int32 := x + ush x 16
def bitF (x : Int32) : Int32 := bc5 (bc4 (bc3 (bc2 (bc1 x)))) &&& 63
theorem bitF_ones : ∀ t, t < 1024 → bitF (nI t) = onesF (nI t) := by
  intro t ht
  have : ∀ k : Fin 1024, bitF (nI k.val) = onesF (nI k.val) := by decide +kernel
  exact this ⟨t, ht⟩
theorem onesF_le : ∀ t, t < 1024 → ∃ k, k ≤ 10 ∧ onesF (nI t) = nI k := by
  intro t ht
  have : ∀ k : Fin 1024, onesF (nI k.val) = nI (onesF (nI k.val)).toNatClampNeg ∧ (onesF (nI k.val)).toNatClampNeg ≤ 10 := by decide +kernel
  exact ⟨_, (this ⟨t, ht⟩).2, (this ⟨t, ht⟩).1⟩
/-- the text that counts, as the class has it: its number in 'counting', its object among the texts -/
def FitAt (g : GG) (tr : Nat → Option Nat) (txb : va_W) (c : Int32) (o : TXC) : Prop := match o with
  | none => c < 0
  | some q => ∃ (j xa ca : Nat) (ky pc : Int32) (ot : va_W), c = nI j ∧ j < 14 ∧ tr j = some xa ∧ q.1 ≤ 96 ∧ txb.Perm ([(xa, .inr (5, [.int ky, .int pc, .ref ca])), (ca, .inl (g.2.1 0, q.1, .inl q.2))] ++ ot)
theorem WD.perm {g : GG} {A : Nat → Prop} {s : State} {H : Heap} {locs : List Loc} {bs bs' : BW} (h : WD g A s H locs bs) (hp : bs.flatten.Perm bs'.flatten) : WD g A s H locs bs' :=
  ⟨h.1, va_P_perm hp h.2.1, va_D_perm hp h.2.2.1, h.2.2.2⟩
theorem WD.opn {g : GG} {A : Nat → Prop} {s : State} {H : Heap} {locs : List Loc} {pre : BW} {txb ot : va_W} {c1 c2 : Nat × va_E} (h : WD g A s H locs (pre ++ [txb])) (hp : txb.Perm ([c1, c2] ++ ot)) : WD g A s H locs (pre ++ [[c1], [c2], ot]) := by
  refine h.perm ?_
  rw [List.flatten_append, List.flatten_append]
  refine List.Perm.append_left _ ?_
  simpa using hp
theorem WD.cls {g : GG} {A : Nat → Prop} {s : State} {H : Heap} {locs : List Loc} {pre : BW} {txb ot : va_W} {c1 c2 : Nat × va_E} (h : WD g A s H locs (pre ++ [[c1], [c2], ot])) (hp : txb.Perm ([c1, c2] ++ ot)) : WD g A s H locs (pre ++ [txb]) := by
  refine h.perm ?_
  rw [List.flatten_append, List.flatten_append]
  refine List.Perm.append_left _ ?_
  simpa using hp.symm
def atF (tr : Nat → Option Nat) (c : Int32) : Option Nat := if 0 ≤ c ∧ c ≤ 13 then tr c.toNatClampNeg else none
def joinF (sg v w : Int32) : Int32 := if sg = 38 then (if ¬ v = 0 ∧ ¬ w = 0 then 1 else 0) else if sg = 42 then v * w else if sg = 43 then v + w else if sg = 45 then v - w else if sg = 47 then (if w = 0 then 0 else v / w) else if sg = 60 then (if v < w then 1 else 0) else if sg = 61 then (if v = w then 1 else 0) else if sg = 62 then (if w < v then 1 else 0) else if sg = 124 then (if ¬ v = 0 ∨ ¬ w = 0 then 1 else 0) else 0
abbrev isSgn (c : Int32) : Prop := c = 38 ∨ c = 42 ∨ c = 43 ∨ c = 45 ∨ c = 47 ∨ c = 60 ∨ c = 61 ∨ c = 62 ∨ c = 124
theorem div_m1 (v : Int32) : v / (-1) = 0 - v := by
  apply Int32.toInt_inj.mp
  rw [Int32.toInt_div, Int32.toInt_sub]
  have : (-1 : Int32).toInt = -1 := by decide
  rw [this]
  simp [Int.tdiv_neg]
theorem joinF_done {sg : Int32} (h : isSgn sg) (v w : Int32) : joinF sg v w = doneF sg v w := by
  have hd := div_m1 v
  unfold joinF doneF
  rcases h with e | e | e | e | e | e | e | e | e <;> rw [e] <;> simp <;> grind
/-- names by their place in the class's row -/
def namedF (nm : DD) (k : Int32) : Int32 := if 0 ≤ k ∧ k ≤ 5 then nm k.toNatClampNeg else 0
def nmX (nm : DD) (c : Int32) : Int32 := namedF nm (c - 10000)
def okSg (len : Nat) (tc : DD) : Prop := ∀ k, k < len → ¬ tc k < 20000 → ¬ tc k = 20033 → isSgn (tc k - 20000)
