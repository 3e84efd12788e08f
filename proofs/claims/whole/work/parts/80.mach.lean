/-! the class's way of reading a text -/
def rF (rd : Nat → Nat) (w o b n pc ky : Int32) : List Value := [.ref (rd 1), .ref (rd 2), .int w, .int o, .int b, .int n, .int pc, .int ky]
def rk (c : Int32) : Nat := if c = 38 then 2 else if c = 42 then 5 else if c = 43 then 4 else if c = 45 then 4 else if c = 47 then 5 else if c = 60 then 3 else if c = 61 then 3 else if c = 62 then 3 else if c = 124 then 1 else 0
theorem rk_le (c : Int32) : rk c ≤ 5 := by unfold rk; grind
def closeD (r : Nat) : List Int32 → List Int32 → List Int32 × List Int32
  | O, [] => (O, [])
  | O, a :: S => if r ≤ rk a then closeD r (O ++ [20000 + a]) S else (O, a :: S)
def closeN : List Int32 → List Int32 → Nat → List Int32 × List Int32 × Nat
  | O, [], n => (O, [], n)
  | O, a :: S, n => if a = 33 then closeN (O ++ [20033]) S (n - 1) else (O, a :: S, n)
/-- how many ! wait -/
def cntN : List Int32 → Nat
  | [] => 0
  | a :: S => cntN S + (if a = 33 then 1 else 0)
/-- a sign is next, codes, what waits, brackets, nots, pieces -/
abbrev MS : Type := Bool × List Int32 × List Int32 × Nat × Nat × Nat
def valM (c : Int32) (q : MS) : MS := (true, (closeN (q.2.1 ++ [c]) q.2.2.1 q.2.2.2.2.1).1, (closeN (q.2.1 ++ [c]) q.2.2.1 q.2.2.2.2.1).2.1, q.2.2.2.1, (closeN (q.2.1 ++ [c]) q.2.2.1 q.2.2.2.2.1).2.2, q.2.2.2.2.2 + 1)
def brkM (q : MS) : Option MS := if q.2.2.2.1 = 0 then none else some (true, (closeN (closeD 1 q.2.1 q.2.2.1).1 (closeD 1 q.2.1 q.2.2.1).2.tail q.2.2.2.2.1).1, (closeN (closeD 1 q.2.1 q.2.2.1).1 (closeD 1 q.2.1 q.2.2.1).2.tail q.2.2.2.2.1).2.1, q.2.2.2.1 - 1, (closeN (closeD 1 q.2.1 q.2.2.1).1 (closeD 1 q.2.1 q.2.2.1).2.tail q.2.2.2.2.1).2.2, q.2.2.2.2.2)
abbrev tpR (S : List Int32) : Nat := rk (S.headD 0)
def sgnM (c : Int32) (q : MS) : Option MS := if c = 41 then brkM q else if rk c = 0 then none else if rk c = 3 ∧ tpR (closeD (rk c + 1) q.2.1 q.2.2.1).2 = 3 then none else some (false, (closeD (rk c) (closeD (rk c + 1) q.2.1 q.2.2.1).1 (closeD (rk c + 1) q.2.1 q.2.2.1).2).1, c :: (closeD (rk c) (closeD (rk c + 1) q.2.1 q.2.2.1).1 (closeD (rk c + 1) q.2.1 q.2.2.1).2).2, q.2.2.2.1, q.2.2.2.2.1, q.2.2.2.2.2)
/-- the class's code of a name; -1: it is none -/
def nmC (ky c : Int32) : Int32 := if ky = 0 then (if c = 115 then 0 else if c = 112 then 1 else if c = 99 then 2 else if c = 110 then 3 else -1) else if ky = 1 then (if c = 111 then 4 else if c = 107 then 5 else -1) else (if c = 115 then 0 else if c = 99 then 2 else -1)
def n10I (tf : DD) (b k : Nat) : Int32 := nI (n10 tf b k)
def pceM (tf : DD) (ky : Int32) (b e : Nat) (q : MS) : Option MS :=
  if isLt (tf b) then (if e - b = 1 ∧ 0 ≤ nmC ky (tf b) then some (valM (10000 + nmC ky (tf b)) q) else none)
  else if isDg (tf b) then (if e - b ≤ 4 then some (valM (n10I tf b (e - b)) q) else none)
  else if tf b = 40 ∧ q.2.2.2.1 < 8 then some (false, q.2.1, 40 :: q.2.2.1, q.2.2.2.1 + 1, q.2.2.2.2.1, q.2.2.2.2.2)
  else if tf b = 33 ∧ q.2.2.2.2.1 < 8 then some (false, q.2.1, 33 :: q.2.2.1, q.2.2.2.1, q.2.2.2.2.1 + 1, q.2.2.2.2.2)
  else none
def stpM (tf : DD) (tp : Nat) (ky : Int32) (j : Nat) (q : MS) : Option MS := if tkA tf tp j = 0 ∨ tkA tf tp j = 4 then none else if q.1 = true then sgnM (tf (bgA tf tp j)) q else pceM tf ky (bgA tf tp j) (atA tf tp j) q
def finM (tp : Nat) (q : MS) : Int32 × MS := if q.1 = false ∨ 0 < q.2.2.2.1 then (nI tp, q) else (-1, (true, (closeD 1 q.2.1 q.2.2.1).1, (closeD 1 q.2.1 q.2.2.1).2, q.2.2.2.1, q.2.2.2.2.1, q.2.2.2.2.2))
def runM (tf : DD) (tp : Nat) (ky : Int32) : Nat → Nat → MS → Int32 × MS
  | 0, _, q => (-2, q)
  | f + 1, i, q => if tkA tf tp (i + 1) = 0 then finM tp q else match stpM tf tp ky (i + 1) q with
    | none => (nI (bgA tf tp (i + 1)), q)
    | some q' => runM tf tp ky f (i + 1) q'
/-! lengths -/
theorem closeD_len {r : Nat} : ∀ S O, (closeD r O S).1.length + (closeD r O S).2.length = O.length + S.length ∧ (closeD r O S).2.length ≤ S.length
  | [], O => ⟨rfl, Nat.le_refl _⟩
  | a :: S, O => by
    unfold closeD
    split
    · have := closeD_len (r := r) S (O ++ [20000 + a])
      simp only [List.length_append, List.length_cons, List.length_nil] at this ⊢
      omega
    · exact ⟨rfl, Nat.le_refl _⟩
theorem closeN_len : ∀ S O n, (closeN O S n).1.length + (closeN O S n).2.1.length = O.length + S.length
  | [], O, n => rfl
  | a :: S, O, n => by
    unfold closeN
    split
    · have := closeN_len S (O ++ [20033]) (n - 1)
      simp only [List.length_append, List.length_cons, List.length_nil] at this ⊢
      omega
    · rfl
/-- the ! that wait are counted -/
abbrev nOK (S : List Int32) (n : Nat) : Prop := cntN S ≤ n
theorem closeD_n {r : Nat} (hr : 0 < r) : ∀ S O n, nOK S n → nOK (closeD r O S).2 n
  | [], O, n, h => h
  | a :: S, O, n, h => by
    unfold closeD
    split
    · refine closeD_n hr S _ n ?_
      unfold nOK cntN at h
      unfold nOK
      omega
    · exact h
theorem closeN_n : ∀ S O n, nOK S n → nOK (closeN O S n).2.1 (closeN O S n).2.2
  | [], O, n, h => h
  | a :: S, O, n, h => by
    unfold closeN
    by_cases q : a = 33
    · rw [if_pos q]
      refine closeN_n S _ _ ?_
      unfold nOK cntN at h
      rw [if_pos q] at h
      unfold nOK
      omega
    · rw [if_neg q]; exact h
theorem PR.up {pl : Nat → Int32} {st : List Int32} {x : Int32} (h : PR pl st) : PR (upd pl st.length x) (x :: st) := h.push rfl
/-! names in the class's strings -/
def idxF (i : Nat) (c : Int32) : Int32 := if lst (fun j => (stByt.getD i []).getD j 0 = c) (stLen.getD i 0) 0 = stLen.getD i 0 then -1 else nI (lst (fun j => (stByt.getD i []).getD j 0 = c) (stLen.getD i 0) 0)
theorem i2b_lt {c : Int32} (h : isLt c) : c.toInt8.toInt32 = c ∧ 0 ≤ c ∧ c ≤ 255 := by
  obtain ⟨a, ha, e⟩ := rng_nat (m := 122) (by omega) (Int32.le_trans (by decide) h.1) h.2
  rw [e]
  have : ∀ k : Fin 123, (nI k.val).toInt8.toInt32 = nI k.val := by decide +kernel
  exact ⟨this ⟨a, by omega⟩, nI_pos' (by omega), nI_le (b := 255) (by omega) (by omega)⟩
theorem i2c_lt {c : Int32} (h : isLt c) : (c.toUInt32 % 65536).toInt32 = c := by
  obtain ⟨a, ha, e⟩ := rng_nat (m := 122) (by omega) (Int32.le_trans (by decide) h.1) h.2
  rw [e]
  have : ∀ k : Fin 123, ((nI k.val).toUInt32 % 65536).toInt32 = nI k.val := by decide +kernel
  exact this ⟨a, by omega⟩
theorem idx_all {c : Int32} (h : isLt c) : (idxF 1 c = -1 ∧ nmC 0 c = -1 ∨ 0 ≤ idxF 1 c ∧ nmC 0 c = idxF 0 c ∧ 0 ≤ nmC 0 c) ∧ (idxF 2 c = -1 ∧ nmC 1 c = -1 ∨ 0 ≤ idxF 2 c ∧ nmC 1 c = idxF 0 c ∧ 0 ≤ nmC 1 c) ∧ (idxF 3 c = -1 ∧ nmC 2 c = -1 ∨ 0 ≤ idxF 3 c ∧ nmC 2 c = idxF 0 c ∧ 0 ≤ nmC 2 c) := by
  obtain ⟨a, ha, e⟩ := rng_nat (m := 122) (by omega) (Int32.le_trans (by decide) h.1) h.2
  rw [e]
  have : ∀ k : Fin 123, (idxF 1 (nI k.val) = -1 ∧ nmC 0 (nI k.val) = -1 ∨ 0 ≤ idxF 1 (nI k.val) ∧ nmC 0 (nI k.val) = idxF 0 (nI k.val) ∧ 0 ≤ nmC 0 (nI k.val)) ∧ (idxF 2 (nI k.val) = -1 ∧ nmC 1 (nI k.val) = -1 ∨ 0 ≤ idxF 2 (nI k.val) ∧ nmC 1 (nI k.val) = idxF 0 (nI k.val) ∧ 0 ≤ nmC 1 (nI k.val)) ∧ (idxF 3 (nI k.val) = -1 ∧ nmC 2 (nI k.val) = -1 ∨ 0 ≤ idxF 3 (nI k.val) ∧ nmC 2 (nI k.val) = idxF 0 (nI k.val) ∧ 0 ≤ nmC 2 (nI k.val)) := by decide +kernel
  exact this ⟨a, by omega⟩
theorem s_bret {p : Program} {l : Launch} {e : Env} {R : Room} {s : State} {m : MethodId} {args : Array Value} {below : List Frame} {meth : Method} {c : Code} {H : Heap} {locs : List Loc} {cells slots : Nat} {Q : State → Prop} {g : GG} {A : Nat → Prop} {cc : ByteArray} {nL pc mc ms : Nat} {ls : Array Slot} {S : Type} {post : Int32 → S → Prop} {w1 : S → BW} {v : Int32} {own : String} (cf : CallFix p m c cc nL s args gw own) (hr : meth.sig.returnType = some .byte) (hlk : meth.locks = false) (u : S) (hw : WD g A s H locs (w1 u)) (hp : post v u) (hnr : narrow .byte (.int v) = .int v) (hc : cells ≤ mc) (hs : slots ≤ ms) (hdg : decode cc pc = .ok (.ireturn, 1)) :
    Q = MQ below (QI g post w1 A) args s mc ms A → W p l e R s m args below meth c H locs cells slots Q (F0 m pc ls [.int v]) :=
  fun hQ => hQ ▸ W.widen (k := mc) (n := ms) hc hs (W.zret (v := v) (ty := .byte) cf.1 cf.2.1 hr hnr (fun t ht hW => ⟨⟨v, u, rfl, hp, by rw [ht]; exact hw.2.1, hw.2.2.1⟩, hw.2.2.2.1.F ht⟩) hw.2.2.2.1.2.2 hdg hlk)
