/-! rows of objects in one block: all of them, all but one -/
def cAll (c : Nat → va_W) : Nat → va_W
  | 0 => []
  | n + 1 => cAll c n ++ c n
def cEx (c : Nat → va_W) (j : Nat) : Nat → va_W
  | 0 => []
  | n + 1 => cEx c j n ++ (if n = j then [] else c n)
theorem cEx_hi {c : Nat → va_W} {j : Nat} : ∀ n, n ≤ j → cEx c j n = cAll c n
  | 0, _ => rfl
  | n + 1, h => by
    show cEx c j n ++ (if n = j then [] else c n) = cAll c n ++ c n
    rw [if_neg (by omega), cEx_hi n (by omega)]
theorem c_perm {c : Nat → va_W} {j : Nat} : ∀ n, j < n → (cAll c n).Perm (c j ++ cEx c j n)
  | 0, h => absurd h (by omega)
  | n + 1, h => by
    show (cAll c n ++ c n).Perm (c j ++ (cEx c j n ++ (if n = j then [] else c n)))
    by_cases q : n = j
    · rw [if_pos q, List.append_nil, cEx_hi n (by omega), q]
      exact List.perm_append_comm
    · rw [if_neg q, ← List.append_assoc]
      exact List.Perm.append_right _ (c_perm n (by omega))
theorem cEx_cg {c c' : Nat → va_W} {j : Nat} (h : ∀ k, k ≠ j → c k = c' k) : ∀ n, cEx c j n = cEx c' j n
  | 0 => rfl
  | n + 1 => by
    show cEx c j n ++ (if n = j then [] else c n) = cEx c' j n ++ (if n = j then [] else c' n)
    rw [cEx_cg h n]
    by_cases q : n = j
    · rw [if_pos q, if_pos q]
    · rw [if_neg q, if_neg q, h n q]
theorem cEx_all {c : Nat → va_W} {j : Nat} : ∀ n, cEx c j n = cAll (fun i => if i = j then [] else c i) n
  | 0 => rfl
  | n + 1 => by
    show cEx c j n ++ (if n = j then [] else c n) = cAll (fun i => if i = j then [] else c i) n ++ (if n = j then [] else c n)
    rw [cEx_all n]
/-- two of them -/
def cE2 (c : Nat → va_W) (j k n : Nat) : va_W := cEx (fun i => if i = j then [] else c i) k n
theorem c_perm2 {c : Nat → va_W} {j k n : Nat} (hj : j < n) (hk : k < n) (hjk : k ≠ j) : (cAll c n).Perm (c j ++ (c k ++ cE2 c j k n)) := by
  refine (c_perm n hj).trans (List.Perm.append_left _ ?_)
  rw [cEx_all]
  have h := c_perm (c := fun i => if i = j then [] else c i) n hk
  rw [if_neg hjk] at h
  exact h
theorem cE2_cg {c c' : Nat → va_W} {j k : Nat} (h : ∀ i, i ≠ k → i ≠ j → c i = c' i) (n : Nat) : cE2 c j k n = cE2 c' j k n := by
  unfold cE2
  refine cEx_cg (fun i hi => ?_) n
  by_cases q : i = j
  · rw [if_pos q, if_pos q]
  · rw [if_neg q, if_neg q, h i hi q]
/-! the class's sheets -/
def shC (g : GG) (sa pa : Nat → Nat) (so sz : DD) (pl : Nat → DD) (k : Nat) : va_W := [(sa k, .inr (2, [.ref (pa k), .int (so k), .int (sz k)])), (pa k, .inl (g.2.1 0, 24, .inl (pl k)))]
def shB (g : GG) (sa pa : Nat → Nat) (so sz : DD) (pl : Nat → DD) : va_W := cAll (shC g sa pa so sz pl) 4
def updP (pl : Nat → DD) (j : Nat) (f : DD) : Nat → DD := fun k => if k = j then f else pl k
theorem updP_eq {pl : Nat → DD} {j : Nat} {f : DD} : updP pl j f j = f := if_pos rfl
theorem updP_ne {pl : Nat → DD} {j k : Nat} {f : DD} (h : k ≠ j) : updP pl j f k = pl k := if_neg h
theorem updP_self {pl : Nat → DD} {j : Nat} : updP pl j (pl j) = pl := by
  funext k
  by_cases h : k = j
  · rw [h, updP_eq]
  · rw [updP_ne h]
theorem sh_opn {g : GG} {sa pa : Nat → Nat} {so sz : DD} {pl : Nat → DD} {j : Nat} (hj : j < 4) : (shB g sa pa so sz pl).Perm ([(sa j, .inr (2, [.ref (pa j), .int (so j), .int (sz j)])), (pa j, .inl (g.2.1 0, 24, .inl (pl j)))] ++ cEx (shC g sa pa so sz pl) j 4) := c_perm 4 hj
theorem sh_cls {g : GG} {sa pa : Nat → Nat} {so sz : DD} {pl : Nat → DD} {j : Nat} {a b : Int32} {f : DD} (hj : j < 4) : (shB g sa pa (upd so j a) (upd sz j b) (updP pl j f)).Perm ([(sa j, .inr (2, [.ref (pa j), .int a, .int b])), (pa j, .inl (g.2.1 0, 24, .inl f))] ++ cEx (shC g sa pa so sz pl) j 4) := by
  have h := c_perm (c := shC g sa pa (upd so j a) (upd sz j b) (updP pl j f)) 4 hj
  rw [cEx_cg (c' := shC g sa pa so sz pl) (fun k hk => by unfold shC; rw [upd_ne hk, upd_ne hk, updP_ne hk])] at h
  have e : shC g sa pa (upd so j a) (upd sz j b) (updP pl j f) j = [(sa j, .inr (2, [.ref (pa j), .int a, .int b])), (pa j, .inl (g.2.1 0, 24, .inl f))] := by unfold shC; rw [upd_eq, upd_eq, updP_eq]
  rw [e] at h
  exact h
theorem sh_clp {g : GG} {sa pa : Nat → Nat} {so sz : DD} {pl : Nat → DD} {j : Nat} {f : DD} (hj : j < 4) : (shB g sa pa so sz (updP pl j f)).Perm ([(sa j, .inr (2, [.ref (pa j), .int (so j), .int (sz j)])), (pa j, .inl (g.2.1 0, 24, .inl f))] ++ cEx (shC g sa pa so sz pl) j 4) := by
  have h := sh_cls (g := g) (sa := sa) (pa := pa) (so := so) (sz := sz) (pl := pl) (j := j) (a := so j) (b := sz j) (f := f) hj
  rwa [upd_self, upd_self] at h
/-- what the class's rows are, by the reference's -/
def plV (n b : Int32) : Int32 := if b = 0 then -1000000005 else n
def ShOK (so sz : DD) (pl : Nat → DD) (nu isn : DD) : Prop := ∀ k, k < 4 → (so k = -1 ∨ so k = 0 ∨ so k = 1) ∧ (∃ m, m ≤ 24 ∧ sz k = nI m) ∧ (¬ so k < 0 → ∀ i, i < 24 → pl k i = plV (nu (24 * k + i)) (isn (24 * k + i)) ∧ ¬ nu (24 * k + i) = -1000000005)
theorem so_neg {so sz : DD} {pl : Nat → DD} {nu isn : DD} (h : ShOK so sz pl nu isn) {k : Nat} (hk : k < 4) : so k = -1 ↔ so k < 0 := by
  rcases (h k hk).1 with e | e | e <;> rw [e] <;> decide
theorem pl_none {so sz : DD} {pl : Nat → DD} {nu isn : DD} (h : ShOK so sz pl nu isn) {k i : Nat} (hk : k < 4) (h0 : ¬ so k < 0) (hi : i < 24) : pl k i = -1000000005 ↔ isn (24 * k + i) = 0 := by
  obtain ⟨h1, h2⟩ := (h k hk).2.2 h0 i hi
  rw [h1]
  unfold plV
  by_cases q : isn (24 * k + i) = 0
  · rw [if_pos q]; exact ⟨fun _ => q, fun _ => rfl⟩
  · rw [if_neg q]; exact ⟨fun z => absurd z h2, fun z => absurd z q⟩
theorem pl_num {so sz : DD} {pl : Nat → DD} {nu isn : DD} (h : ShOK so sz pl nu isn) {k i : Nat} (hk : k < 4) (h0 : ¬ so k < 0) (hi : i < 24) (hs : ¬ isn (24 * k + i) = 0) : pl k i = nu (24 * k + i) := by
  rw [((h k hk).2.2 h0 i hi).1]
  exact if_neg hs
def shAt (sa : Nat → Nat) (k : Int32) : Option Nat := if isS k then some (sa k.toNatClampNeg) else none
theorem le24 {m : Nat} (h : m ≤ 24) : 0 ≤ nI m ∧ nI m ≤ 24 := ⟨nI_pos' (by omega), nI_le (b := 24) h (by omega)⟩
theorem hasM {p q : Int32} {m : Nat} (hm : m ≤ 24) (h1 : ¬ p < 0) (h2 : ¬ q < 0) : p ≤ nI m - q ↔ p.toInt + q.toInt ≤ (nI m).toInt := by
  obtain ⟨a, ha, rfl⟩ := nI_of h1
  obtain ⟨b, hb, rfl⟩ := nI_of h2
  rw [nI_toInt ha, nI_toInt hb, nI_toInt (by omega)]
  by_cases h : b ≤ m
  · rw [pk_sub h, nI_leI ha (by omega)]; omega
  · have h4 : (nI m - nI b).toInt = (m : Int) - (b : Int) := by
      rw [Int32.toInt_sub, nI_toInt (by omega), nI_toInt hb]
      exact Int.bmod_eq_of_le (by omega) (by omega)
    have h3 : nI m - nI b < 0 := by rw [Int32.lt_iff_toInt_lt, h4]; show (m : Int) - (b : Int) < 0; omega
    constructor
    · intro z
      exact absurd (Int32.lt_of_le_of_lt z h3) (nI_pos ha)
    · intro z; omega
/-! the class's slots -/
def slC (g : GG) (la ra qa : Nat → Nat) (hs kd st co he nu rs rl : DD) (rp : Nat → DD) (k : Nat) : va_W := [(la k, .inr (3, [.int (hs k), .int (kd k), .int (st k), .int (co k), .int (he k), .int (nu k), .ref (ra k)])), (ra k, .inr (2, [.ref (qa k), .int (rs k), .int (rl k)])), (qa k, .inl (g.2.1 0, 24, .inl (rp k)))]
def slB (g : GG) (la ra qa : Nat → Nat) (hs kd st co he nu rs rl : DD) (rp : Nat → DD) : va_W := cAll (slC g la ra qa hs kd st co he nu rs rl rp) 5
theorem sl_opn {g : GG} {la ra qa : Nat → Nat} {hs kd st co he nu rs rl : DD} {rp : Nat → DD} {j : Nat} (hj : j < 5) : (slB g la ra qa hs kd st co he nu rs rl rp).Perm ([(la j, .inr (3, [.int (hs j), .int (kd j), .int (st j), .int (co j), .int (he j), .int (nu j), .ref (ra j)])), (ra j, .inr (2, [.ref (qa j), .int (rs j), .int (rl j)])), (qa j, .inl (g.2.1 0, 24, .inl (rp j)))] ++ cEx (slC g la ra qa hs kd st co he nu rs rl rp) j 5) := c_perm 5 hj
theorem sl_cls {g : GG} {la ra qa : Nat → Nat} {hs kd st co he nu rs rl : DD} {rp : Nat → DD} {j : Nat} {v0 v1 v2 v3 v4 v5 v6 v7 : Int32} {f : DD} (hj : j < 5) : (slB g la ra qa (upd hs j v0) (upd kd j v1) (upd st j v2) (upd co j v3) (upd he j v4) (upd nu j v5) (upd rs j v6) (upd rl j v7) (updP rp j f)).Perm ([(la j, .inr (3, [.int v0, .int v1, .int v2, .int v3, .int v4, .int v5, .ref (ra j)])), (ra j, .inr (2, [.ref (qa j), .int v6, .int v7])), (qa j, .inl (g.2.1 0, 24, .inl f))] ++ cEx (slC g la ra qa hs kd st co he nu rs rl rp) j 5) := by
  have h := c_perm (c := slC g la ra qa (upd hs j v0) (upd kd j v1) (upd st j v2) (upd co j v3) (upd he j v4) (upd nu j v5) (upd rs j v6) (upd rl j v7) (updP rp j f)) 5 hj
  rw [cEx_cg (c' := slC g la ra qa hs kd st co he nu rs rl rp) (fun k hk => by unfold slC; simp only [upd_ne hk, updP_ne hk])] at h
  have e : slC g la ra qa (upd hs j v0) (upd kd j v1) (upd st j v2) (upd co j v3) (upd he j v4) (upd nu j v5) (upd rs j v6) (upd rl j v7) (updP rp j f) j = [(la j, .inr (3, [.int v0, .int v1, .int v2, .int v3, .int v4, .int v5, .ref (ra j)])), (ra j, .inr (2, [.ref (qa j), .int v6, .int v7])), (qa j, .inl (g.2.1 0, 24, .inl f))] := by unfold slC; simp only [upd_eq, updP_eq]
  rw [e] at h
  exact h
theorem WD.opn3 {g : GG} {A : Nat → Prop} {s : State} {H : Heap} {locs : List Loc} {pre : BW} {txb ot : va_W} {c1 c2 c3 : Nat × va_E} (h : WD g A s H locs (pre ++ [txb])) (hp : txb.Perm ([c1, c2, c3] ++ ot)) : WD g A s H locs (pre ++ [[c1], [c2], [c3], ot]) := by
  refine h.perm ?_
  rw [List.flatten_append, List.flatten_append]
  refine List.Perm.append_left _ ?_
  simpa using hp
theorem WD.cls3 {g : GG} {A : Nat → Prop} {s : State} {H : Heap} {locs : List Loc} {pre : BW} {txb ot : va_W} {c1 c2 c3 : Nat × va_E} (h : WD g A s H locs (pre ++ [[c1], [c2], [c3], ot])) (hp : txb.Perm ([c1, c2, c3] ++ ot)) : WD g A s H locs (pre ++ [txb]) := by
  refine h.perm ?_
  rw [List.flatten_append, List.flatten_append]
  refine List.Perm.append_left _ ?_
  simpa using hp.symm
theorem WD.opn4 {g : GG} {A : Nat → Prop} {s : State} {H : Heap} {locs : List Loc} {pre : BW} {txb ot : va_W} {c1 c2 c3 c4 : Nat × va_E} (h : WD g A s H locs (pre ++ [txb])) (hp : txb.Perm ([c1, c2] ++ ([c3, c4] ++ ot))) : WD g A s H locs (pre ++ [[c1], [c2], [c3], [c4], ot]) := by
  refine h.perm ?_
  rw [List.flatten_append, List.flatten_append]
  refine List.Perm.append_left _ ?_
  simpa using hp
theorem WD.cls4 {g : GG} {A : Nat → Prop} {s : State} {H : Heap} {locs : List Loc} {pre : BW} {txb ot : va_W} {c1 c2 c3 c4 : Nat × va_E} (h : WD g A s H locs (pre ++ [[c1], [c2], [c3], [c4], ot])) (hp : txb.Perm ([c1, c2] ++ ([c3, c4] ++ ot))) : WD g A s H locs (pre ++ [txb]) := by
  refine h.perm ?_
  rw [List.flatten_append, List.flatten_append]
  refine List.Perm.append_left _ ?_
  simpa using hp.symm
theorem sh_op2 {g : GG} {sa pa : Nat → Nat} {so sz : DD} {pl : Nat → DD} {j k : Nat} (hj : j < 4) (hk : k < 4) (hjk : k ≠ j) : (shB g sa pa so sz pl).Perm ([(sa j, .inr (2, [.ref (pa j), .int (so j), .int (sz j)])), (pa j, .inl (g.2.1 0, 24, .inl (pl j)))] ++ ([(sa k, .inr (2, [.ref (pa k), .int (so k), .int (sz k)])), (pa k, .inl (g.2.1 0, 24, .inl (pl k)))] ++ cE2 (shC g sa pa so sz pl) j k 4)) := c_perm2 hj hk hjk
theorem sh_cl2 {g : GG} {sa pa : Nat → Nat} {so sz : DD} {pl : Nat → DD} {j k : Nat} {f : DD} (hj : j < 4) (hk : k < 4) (hjk : k ≠ j) : (shB g sa pa so sz (updP pl k f)).Perm ([(sa j, .inr (2, [.ref (pa j), .int (so j), .int (sz j)])), (pa j, .inl (g.2.1 0, 24, .inl (pl j)))] ++ ([(sa k, .inr (2, [.ref (pa k), .int (so k), .int (sz k)])), (pa k, .inl (g.2.1 0, 24, .inl f))] ++ cE2 (shC g sa pa so sz pl) j k 4)) := by
  have h := sh_op2 (g := g) (sa := sa) (pa := pa) (so := so) (sz := sz) (pl := updP pl k f) hj hk hjk
  rw [updP_eq, updP_ne (Ne.symm hjk), cE2_cg (c' := shC g sa pa so sz pl) (fun i h1 h2 => by unfold shC; rw [updP_ne h1])] at h
  exact h
