/-! blocks by name, bare numbers, what the reference's small functions say -/
abbrev bO (a ci : Nat) (fs : List Value) : va_W := [(a, .inr (ci, fs))]
abbrev bI (g : GG) (a n : Nat) (f : Nat → Int32) : va_W := [(a, .inl (g.2.1 0, n, .inl f))]
abbrev bZ (g : GG) (a n : Nat) (f : Nat → Int32) : va_W := [(a, .inl (g.2.1 1, n, .inl f))]
abbrev bR (g : GG) (k a n : Nat) (f : Nat → Option Nat) : va_W := [(a, .inl (g.2.1 k, n, .inr (.inr (.inr (.inr f)))))]
theorem b01_z {C : Prop} [Decidable C] (h : (if C then (1 : Int32) else 0) = 0) : ¬ C := fun q => by rw [if_pos q] at h; exact absurd h (by decide)
theorem b01_n {C : Prop} [Decidable C] (h : ¬ (if C then (1 : Int32) else 0) = 0) : C := Decidable.byContradiction fun q => h (if_neg q)
theorem le64 {x y : Int32} : x.toInt64 ≤ y.toInt64 ↔ x ≤ y := by rw [Int64.le_iff_toInt_le, Int32.le_iff_toInt_le, Int32.toInt_toInt64, Int32.toInt_toInt64]
theorem lt64 {x y : Int32} : x.toInt64 < y.toInt64 ↔ x < y := by rw [Int64.lt_iff_toInt_lt, Int32.lt_iff_toInt_lt, Int32.toInt_toInt64, Int32.toInt_toInt64]
def held (v lo hi : Int32) : Int32 := if v < lo then lo else if hi < v then hi else v
def sizeF (v : Int32) : Int32 := if v < 0 then -v else v
/-- iterate from the front: step k is done behind all before it -/
def itn {α : Type} (f : Nat → α → α) : Nat → α → α
  | 0, x => x
  | n + 1, x => f n (itn f n x)
theorem ix5 (h w : Nat) : (10 : Int32) + 5 * nI h + nI w = nI (10 + 5 * h + w) := by
  rw [← nI_add, ← nI_add, ← pk_mul]; rfl
def mArr (k : Nat) : Bool := decide (k ≤ 3) || (decide (5 ≤ k) && decide (k ≤ 10)) || (decide (23 ≤ k) && decide (k ≤ 37))
def MF (ad : Nat → Nat) (fs : List Value) : Prop := Nat.blt 38 fs.length = true ∧ ∀ k, mArr k = true → fs[k]? = some (.ref (ad k))
theorem MF.set {ad : Nat → Nat} {fs : List Value} {j : Nat} {v : Value} (h : MF ad fs) (hj : mArr j = false) : MF ad (fs.set j v) := by
  refine ⟨by rw [List.length_set]; exact h.1, fun k hk => ?_⟩
  rw [List.getElem?_set_ne (fun e => by rw [e, hk] at hj; cases hj)]
  exact h.2 k hk
theorem lcmp_lt {x y : Int32} : lg_cmp x.toInt64 y.toInt64 < 0 ↔ x < y := by rw [lg_cmp_lt, lt64]
theorem lcmp_gt {x y : Int32} : 0 < lg_cmp x.toInt64 y.toInt64 ↔ y < x := by rw [lg_cmp_gt, lt64]
theorem nI_lt_of {i n : Nat} (hi : i < 1073741824) (h : ¬ nI n ≤ nI i) (hn : n < 1073741824) : i < n := by
  rw [nI_leI (by omega) (by omega)] at h; omega
theorem nI_le_of {i n : Nat} (hi : i < 1073741824) (h : nI n ≤ nI i) (hn : n < 1073741824) : n ≤ i := by
  rw [nI_leI (by omega) (by omega)] at h; omega
theorem cell_congr {cA : ClassId} {n : Nat} {f f' : Nat → Int32} (h : ∀ j, j < n → f j = f' j) : vp_cell cA (n, .inl f) = vp_cell cA (n, .inl f') := by
  show arrV cA n (fun j => .int (f j)) = arrV cA n (fun j => .int (f' j))
  unfold arrV
  congr 1
  apply Array.ext
  · simp
  · intro i h1 h2
    simp at h1 ⊢
    exact h i h1
/-- a row's numbers beyond its length don't matter -/
theorem WD.cong {g : GG} {A : Nat → Prop} {s : State} {H : Heap} {locs : List Loc} {bs : BW} {a n : Nat} {cA : ClassId} {f f' : Nat → Int32} (hw : WD g A s H locs bs) (q0 : Nat) (hb0 : bs[q0]? = some [(a, .inl (cA, n, .inl f))]) (h : ∀ j, j < n → f j = f' j) : WD g A s H locs (bs.set q0 [(a, .inl (cA, n, .inl f'))]) := by
  obtain ⟨q, h1, h2⟩ := flat_at bs q0 hb0
  obtain ⟨hK, hP, hD, hS, hA, hG⟩ := hw
  refine ⟨hK, ?_, ?_, hS, hA, hG⟩
  · rw [← h2]
    refine hP.set hD h1 ?_ (fun _ _ => rfl)
    show H[a]? = some (vp_cell cA (n, .inl f'))
    rw [← cell_congr h]
    exact hP q _ h1
  · rw [← h2]
    exact hD.set h1
theorem nI_m1_neg {i : Nat} (hi : i < 1073741824) (h : nI i - 1 < 0) : i = 0 := by
  rcases i with _ | j
  · rfl
  · rw [nI_pred] at h; exact absurd h (nI_pos (by omega))
theorem nI_m1_nn {i : Nat} (h : ¬ nI i - 1 < 0) : ∃ j, i = j + 1 := by
  rcases i with _ | j
  · exact absurd (by decide) h
  · exact ⟨j, rfl⟩
theorem ix96 (t i : Nat) : (96 : Int32) * nI t + nI i = nI (96 * t + i) := by
  rw [← nI_add, ← pk_mul]; rfl
theorem add_m1 (x : Int32) : x + Int32.ofInt (-1) = x - 1 := by rw [Int32.sub_eq_add_neg]; rfl
theorem ix5b (h : Nat) : (10 : Int32) + 5 * nI h = nI (10 + 5 * h + 0) := by
  rw [Nat.add_zero, ← nI_add, ← pk_mul]; rfl
theorem MF.len {ad : Nat → Nat} {fs : List Value} (h : MF ad fs) (k : Nat) (hk : k ≤ 38) : Nat.blt k fs.length = true := by
  have := Nat.le_of_ble_eq_true h.1
  exact Nat.ble_eq_true_of_le (by omega)
