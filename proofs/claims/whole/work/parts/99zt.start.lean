/-! the start: what the Statement gives of it -/
theorem stt_len {args : Array Value} {s : State} {t : Term} {v : Value} (h : (Term.length t).eval args s none [] s = some v) : ∃ a cell, t.eval args s none [] s = some (.ref a) ∧ s.arrayAt? a = some cell ∧ cell.slots.size < 2147483648 ∧ v = .int cell.slots.size.toInt32 := by
  simp only [Term.eval, Option.bind_eq_bind] at h
  cases ht : t.eval args s none [] s with
  | none => simp [ht] at h
  | some x =>
    cases x <;> simp [ht] at h
    case ref a =>
      obtain ⟨cell, hcell, h⟩ := Option.bind_eq_some_iff.mp h
      by_cases hn : cell.slots.size < 2147483648
      · rw [if_pos hn] at h; cases h; exact ⟨a, cell, rfl, hcell, hn, rfl⟩
      · rw [if_neg hn] at h; cases h
theorem st_A {args : Array Value} {s : State} {A : Nat → Prop} (hA : ∀ a : Nat, a < s.heap.size → ¬ A a) {n : String} {N : Nat} {f : Nat → Int32} (hN : N < 2 ^ 31) (hlay : (Cond.laysStatic "CoalHoles" n "[I").before args s = true) (hini : (Cond.initialized "CoalHoles").before args s = true) (harr : (Cond.arrayOf (.static "CoalHoles" n "[I") .int).before args s = true) (hlen : (Cond.eq (.length (.static "CoalHoles" n "[I")) (.int (Int32.ofNat N))).before args s = true) (hel : ∀ j, j < N → (Cond.eq (.elem (.static "CoalHoles" n "[I") (.int (Int32.ofNat j))) (.int (f j))).before args s = true) : ∃ t : Nat, (Term.static "CoalHoles" n "[I").eval args s none [] s = some (.ref t) ∧ StA n t N f A s s.heap := by
  obtain ⟨t, ht, hT⟩ := va_Tof (f := fun j => .int (f j)) (A := A) hN harr (va_eqt hlen) (fun j hj => va_eqt (hel j hj)) hA
  exact ⟨t, ht, va_Zof hlay hini ht hA, hT⟩
theorem st_eq {args : Array Value} {s : State} {t1 t2 : Term} {a : Nat} (h : (Cond.eq t1 t2).before args s = true) (h1 : t1.eval args s none [] s = some (.ref a)) : t2.eval args s none [] s = some (.ref a) := by
  cases hv : t2.eval args s none [] s with
  | none => simp [Cond.before, Cond.holds, Cond.value, hv, h1] at h
  | some w =>
    simp only [Cond.before, Cond.holds, Cond.value, hv, h1] at h
    cases w <;> simp_all
theorem st_fr {args : Array Value} {s : State} {A : Nat → Prop} {t : Nat} {c : ClassId} (hA : ∀ a : Nat, a < s.heap.size → ¬ A a) (hc : s.vm.findClass "[I" = some c) (ht : (Term.static "CoalHoles" "FIRST_RULES" "[I").eval args s none [] s = some (.ref t)) (hex : (Cond.exactly (.static "CoalHoles" "FIRST_RULES" "[I") "[I").before args s = true) (hlen : (Cond.eq (.length (.static "CoalHoles" "FIRST_RULES" "[I")) (.int 3)).before args s = true) (hT : va_T .int t 3 (fun j => .int (frF j)) A s s.heap) : ∃ cell : Cell, s.heap[t]? = some cell ∧ cell.cls = c ∧ cell.vm.isStatics = false ∧ cell.vm ≠ .unknown ∧ cell.slots = (vp_cell c (3, .inl frF)).slots ∧ ¬ A t := by
  obtain ⟨a, c2, cell, k, q1, q2, q3, q4, q5, q6, -⟩ := Cond.exactly_spec (args := args) (first := s) (o := none) (s := s) (idx := []) (t := .static "CoalHoles" "FIRST_RULES" "[I") (cls := "[I") hex
  cases ht.symm.trans q1
  cases hc.symm.trans q2
  obtain ⟨cell2, h1, h2, h3, h4, h5, h6, h7⟩ := hT
  cases q3.symm.trans h1
  obtain ⟨a3, cell3, r1, r2, r3, r4⟩ := stt_len (va_eqt hlen)
  cases ht.symm.trans r1
  obtain ⟨r5, -, -, -⟩ := State.arrayAt?_spec r2
  cases q3.symm.trans r5
  have hsz : cell.slots.size = 3 := by
    have e : (Int32.ofNat cell.slots.size).toNatClampNeg = (Int32.ofNat 3).toNatClampNeg := congrArg Int32.toNatClampNeg h5
    rw [Int32.toNatClampNeg_ofNat_of_lt (n := cell.slots.size) r3, Int32.toNatClampNeg_ofNat_of_lt (n := 3) (by decide)] at e
    exact e
  refine ⟨cell, q3, q6, q5, h3, ?_, h7⟩
  rw [vp_cell_i]
  apply Array.ext_getElem?
  intro i
  by_cases hi : i < 3
  · rw [arrV_read _ _ hi]
    exact h6 i hi
  · rw [Array.getElem?_eq_none (by omega), Array.getElem?_eq_none (by rw [arrV_size]; omega)]
def st_tm : Nat → Term := fun i => match i with
  | 0 => .string "CoalHoles$Laws" 17
  | 1 => .string "CoalHoles$Reader" 121
  | 2 => .string "CoalHoles$Reader" 123
  | _ => .string "CoalHoles$Reader" 125
theorem st_hex : ∀ i, i < 4 → Cond.exactly (st_tm i) "java/lang/String" ∈ flatC (Jvm.Cond.and given_1 narrow_1) := by decide +kernel
theorem st_hco : ∀ i, i < 4 → Cond.eq (.field (st_tm i) "java/lang/String" "coder" "B") (.int 0) ∈ flatC (Jvm.Cond.and given_1 narrow_1) := by decide +kernel
theorem st_har : ∀ i, i < 4 → Cond.arrayOf (.field (st_tm i) "java/lang/String" "value" "[B") .byte ∈ flatC (Jvm.Cond.and given_1 narrow_1) := by decide +kernel
theorem st_hle : ∀ i, i < 4 → Cond.eq (.length (.field (st_tm i) "java/lang/String" "value" "[B")) (.int (Int32.ofNat (stLen.getD i 0))) ∈ flatC (Jvm.Cond.and given_1 narrow_1) := by decide +kernel
theorem st_hel : ∀ i, i < 4 → ∀ j, j < stLen.getD i 0 → Cond.eq (.elem (.field (st_tm i) "java/lang/String" "value" "[B") (.int (Int32.ofNat j))) (.int ((stByt.getD i []).getD j 0)) ∈ flatC (Jvm.Cond.and given_1 narrow_1) := by decide +kernel
theorem st_hne : ∀ i, i < 4 → ∀ j, j < 4 → i ≠ j → Cond.not (Cond.eq (st_tm i) (st_tm j)) ∈ flatC (Jvm.Cond.and given_1 narrow_1) ∨ Cond.not (Cond.eq (st_tm j) (st_tm i)) ∈ flatC (Jvm.Cond.and given_1 narrow_1) := by decide +kernel
theorem st_lt : ∀ i, i < 4 → stLen.getD i 0 < 2 ^ 31 := by decide +kernel
theorem st_eq94 : Cond.eq (.string "CoalHoles$Laws" 17) (.string "CoalHoles$Reader" 94) ∈ flatC (Jvm.Cond.and given_1 narrow_1) := by decide +kernel
theorem st_cs : Cond.eq (.static "java/lang/String" "COMPACT_STRINGS" "Z") (.int 1) ∈ flatC (Jvm.Cond.and given_1 narrow_1) := by decide +kernel
def st_ok (n : String) (N : Nat) (f : Nat → Int32) : Prop := Cond.arrayOf (.static "CoalHoles" n "[I") .int ∈ flatC (Jvm.Cond.and given_1 narrow_1) ∧ Cond.eq (.length (.static "CoalHoles" n "[I")) (.int (Int32.ofNat N)) ∈ flatC (Jvm.Cond.and given_1 narrow_1) ∧ ∀ j, j < N → Cond.eq (.elem (.static "CoalHoles" n "[I") (.int (Int32.ofNat j))) (.int (f j)) ∈ flatC (Jvm.Cond.and given_1 narrow_1)
theorem st_ok0 : st_ok "FIRST_RULES" 3 frF := ⟨by decide +kernel, by decide +kernel, by decide +kernel⟩
theorem st_ok1 : st_ok "BURNS" 6 buF := ⟨by decide +kernel, by decide +kernel, by decide +kernel⟩
theorem st_ok2 : st_ok "ABOVE" 6 abF := ⟨by decide +kernel, by decide +kernel, by decide +kernel⟩
theorem st_ok3 : st_ok "MOST_RULES" 3 mrF := ⟨by decide +kernel, by decide +kernel, by decide +kernel⟩
theorem st_xfr : Cond.exactly (.static "CoalHoles" "FIRST_RULES" "[I") "[I" ∈ flatC (Jvm.Cond.and given_1 narrow_1) := by decide +kernel
