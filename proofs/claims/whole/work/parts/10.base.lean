/-! blocks by name, bare numbers, what the reference's small functions say -/
abbrev bO (a ci : Nat) (fs : List Value) : va_W := [(a, .inr (ci, fs))]
abbrev bI (g : GG) (a n : Nat) (f : Nat → Int32) : va_W := [(a, .inl (g.2.1 0, n, .inl f))]
abbrev bZ (g : GG) (a n : Nat) (f : Nat → Int32) : va_W := [(a, .inl (g.2.1 1, n, .inl f))]
abbrev bR (g : GG) (k a n : Nat) (f : Nat → Option Nat) : va_W := [(a, .inl (g.2.1 k, n, .inr (.inr (.inr (.inr f)))))]
theorem b01_z {C : Prop} [Decidable C] (h : (if C then (1 : Int32) else 0) = 0) : ¬ C := fun q => by rw [if_pos q] at h; exact absurd h (by decide)
theorem b01_n {C : Prop} [Decidable C] (h : ¬ (if C then (1 : Int32) else 0) = 0) : C := Decidable.byContradiction fun q => h (if_neg q)
theorem le64 {x y : Int32} : x.toInt64 ≤ y.toInt64 ↔ x ≤ y := by rw [Int64.le_iff_toInt_le, Int32.le_iff_toInt_le, Int32.toInt_toInt64, Int32.toInt_toInt64]
theorem lt64 {x y : Int32} : x.toInt64 < y.toInt64 ↔ x < y := by rw [Int64.lt_iff_toInt_lt, Int32.lt_iff_toInt_lt, Int32.toInt_toInt64, Int32.toInt_toInt64]
def held (v lo hi : Int32) : Int32 := if v < lo then lo else if hi < v then hi else v
def sizeF (v : Int32) : Int32 := if v < 0 then -v else v
/-- iterate from the front: step k is done behind all before it -/
def itn {α : Type} (f : Nat → α → α) : Nat → α → α
  | 0, x => x
  | n + 1, x => f n (itn f n x)
theorem ix5 (h w : Nat) : (10 : Int32) + 5 * nI h + nI w = nI (10 + 5 * h + w) := by
  rw [← nI_add, ← nI_add, ← pk_mul]; rfl
def mArr (k : Nat) : Bool := decide (k ≤ 3) || (decide (5 ≤ k) && decide (k ≤ 10)) || (decide (23 ≤ k) && decide (k ≤ 37))
def MF (ad : Nat → Nat) (fs : List Value) : Prop := Nat.blt 38 fs.length = true ∧ ∀ k, mArr k = true → fs[k]? = some (.ref (ad k))
theorem MF.set {ad : Nat → Nat} {fs : List Value} {j : Nat} {v : Value} (h : MF ad fs) (hj : mArr j = false) : MF ad (fs.set j v) := by
  refine ⟨by rw [List.length_set]; exact h.1, fun k hk => ?_⟩
  rw [List.getElem?_set_ne (fun e => by rw [e, hk] at hj; cases hj)]
  exact h.2 k hk
theorem lcmp_lt {x y : Int32} : lg_cmp x.toInt64 y.toInt64 < 0 ↔ x < y := by rw [lg_cmp_lt, lt64]
theorem lcmp_gt {x y : Int32} : 0 < lg_cmp x.toInt64 y.toInt64 ↔ y < x := by rw [lg_cmp_gt, lt64]
