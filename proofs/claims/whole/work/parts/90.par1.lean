/-! the machine's runs over the words -/
section PAR
variable {tf : DD} {tp : Nat} {ky : Int32}
def mrn (tf : DD) (tp : Nat) (ky : Int32) : Nat → Nat → MS → Option MS
  | 0, _, q => some q
  | k + 1, i, q => match stpM tf tp ky i q with
    | none => none
    | some q' => mrn tf tp ky k (i + 1) q'
theorem mrn_add : ∀ (a b i : Nat) (q r : MS), mrn tf tp ky a i q = some r → mrn tf tp ky (a + b) i q = mrn tf tp ky b (i + a) r
  | 0, b, i, q, r, h => by cases h; rw [Nat.zero_add]; rfl
  | a + 1, b, i, q, r, h => by
    rw [show a + 1 + b = (a + b) + 1 by omega]
    have e1 : ∀ (n : Nat) (q : MS), mrn tf tp ky (n + 1) i q = (match stpM tf tp ky i q with
      | none => none
      | some q' => mrn tf tp ky n (i + 1) q') := fun n q => rfl
    rw [e1] at h ⊢
    cases hs : stpM tf tp ky i q with
    | none => rw [hs] at h; cases h
    | some q' =>
      rw [hs] at h
      have ih := mrn_add a b (i + 1) q' r h
      rw [show i + (a + 1) = i + 1 + a by omega]
      exact ih
def Rn (tf : DD) (tp : Nat) (ky : Int32) (i : Nat) (q : MS) (j : Nat) (r : MS) : Prop := ∃ k, j = i + k ∧ mrn tf tp ky k i q = some r
def Fl (tf : DD) (tp : Nat) (ky : Int32) (i : Nat) (q : MS) (j : Nat) : Prop := ∃ r, Rn tf tp ky i q j r ∧ stpM tf tp ky j r = none ∧ (tkA tf tp j = 0 → r.1 = false ∨ 0 < r.2.2.2.1)
theorem Rn.refl {i : Nat} {q : MS} : Rn tf tp ky i q i q := ⟨0, rfl, rfl⟩
theorem Rn.trans {i j k : Nat} {q r t : MS} (h1 : Rn tf tp ky i q j r) (h2 : Rn tf tp ky j r k t) : Rn tf tp ky i q k t := by
  obtain ⟨a, rfl, ha⟩ := h1
  obtain ⟨b, rfl, hb⟩ := h2
  exact ⟨a + b, by omega, by rw [mrn_add a b i q r ha]; exact hb⟩
theorem Rn.one {i : Nat} {q r : MS} (h : stpM tf tp ky i q = some r) : Rn tf tp ky i q (i + 1) r := ⟨1, rfl, by unfold mrn; rw [h]; rfl⟩
theorem Rn.fl {i j k : Nat} {q r : MS} (h1 : Rn tf tp ky i q j r) (h2 : Fl tf tp ky j r k) : Fl tf tp ky i q k := by
  obtain ⟨t, a, b⟩ := h2
  exact ⟨t, h1.trans a, b⟩
/-! closing -/
abbrev flu (p : List Int32) : List Int32 := p.map (fun a => 20000 + a)
theorem closeD_app {r : Nat} : ∀ (p O S : List Int32), (∀ a ∈ p, r ≤ rk a) → tpR S < r → closeD r O (p ++ S) = (O ++ flu p, S)
  | [], O, S, _, h => by
    show closeD r O S = (O ++ [], S)
    rw [List.append_nil]
    cases S with
    | nil => rfl
    | cons a S => exact if_neg (by have h2 : rk a < r := h; omega)
  | a :: p, O, S, hp, h => by
    show (if r ≤ rk a then closeD r (O ++ [20000 + a]) (p ++ S) else _) = _
    rw [if_pos (hp a List.mem_cons_self), closeD_app p (O ++ [20000 + a]) S (fun x hx => hp x (List.mem_cons_of_mem _ hx)) h]
    show (O ++ [20000 + a] ++ flu p, S) = (O ++ (20000 + a) :: flu p, S)
    rw [List.append_assoc]; rfl
theorem closeD_comp {r : Nat} : ∀ (S O : List Int32), closeD r (closeD (r + 1) O S).1 (closeD (r + 1) O S).2 = closeD r O S
  | [], O => rfl
  | a :: S, O => by
    by_cases h : r + 1 ≤ rk a
    · have e1 : closeD (r + 1) O (a :: S) = closeD (r + 1) (O ++ [20000 + a]) S := if_pos h
      have e2 : closeD r O (a :: S) = closeD r (O ++ [20000 + a]) S := if_pos (by omega)
      rw [e1, e2]
      exact closeD_comp S (O ++ [20000 + a])
    · have e1 : closeD (r + 1) O (a :: S) = (O, a :: S) := if_neg h
      rw [e1]
theorem closeN_rep : ∀ (k n : Nat) (O S : List Int32), S.headD 0 ≠ 33 → closeN O (List.replicate k 33 ++ S) n = (O ++ List.replicate k 20033, S, n - k)
  | 0, n, O, S, h => by
    show closeN O S n = (O ++ [], S, n)
    rw [List.append_nil]
    cases S with
    | nil => rfl
    | cons a S => exact if_neg h
  | k + 1, n, O, S, h => by
    show (if (33 : Int32) = 33 then closeN (O ++ [20033]) (List.replicate k 33 ++ S) (n - 1) else _) = _
    rw [if_pos rfl, closeN_rep k (n - 1) (O ++ [20033]) S h, List.append_assoc]
    show (O ++ (20033 :: List.replicate k 20033), S, n - 1 - k) = (O ++ (20033 :: List.replicate k 20033), S, n - (k + 1))
    rw [show n - 1 - k = n - (k + 1) by omega]
/-! signs among the words -/
def opR (tf : DD) (tp j : Nat) : Nat := if tkA tf tp j = 3 then rk (tf (bgA tf tp j)) else 0
theorem lex_3 {at_ bw : Nat} (h : (lexF tf tp at_ bw).2.2.2.1 = 3) : (lexF tf tp at_ bw).2.2.2.2 = (tf (lexF tf tp at_ bw).1).toInt64 ∧ ¬ isLt (tf (lexF tf tp at_ bw).1) ∧ ¬ isDg (tf (lexF tf tp at_ bw).1) := by
  by_cases q : skipB tf tp at_ = tp
  · rw [lx_end rfl q] at h; exact absurd h (show ¬ (0 : Int32) = 3 by decide)
  · by_cases hl : isLt (tf (skipB tf tp at_))
    · rw [lx_let rfl q hl rfl] at h
      exfalso
      revert h
      show (if _ then (4 : Int32) else 1) = 3 → False
      split <;> decide
    · by_cases hd : isDg (tf (skipB tf tp at_))
      · rw [lx_dig rfl q hl hd rfl] at h
        exfalso
        revert h
        show (if _ then (4 : Int32) else 2) = 3 → False
        split <;> decide
      · rw [lx_sgn rfl q hl hd]; exact ⟨rfl, hl, hd⟩
theorem tk3 {j : Nat} (h : tkA tf tp j = 3) : vaA tf tp j = (tf (bgA tf tp j)).toInt64 ∧ ¬ isLt (tf (bgA tf tp j)) ∧ ¬ isDg (tf (bgA tf tp j)) := by
  cases j with
  | zero => exact lex_3 h
  | succ j => exact lex_3 h
theorem i64_inj {x y : Int32} (h : x.toInt64 = y.toInt64) : x = y := by
  have := congrArg Int64.toInt32 h
  rwa [Int32.toInt32_toInt64, Int32.toInt32_toInt64] at this
theorem sg_iff {c : Int32} {q : PS} : sgA tf tp c q ↔ tkA tf tp q.1 = 3 ∧ tf (bgA tf tp q.1) = c ∧ ¬ q.2.2.2 = true := by
  constructor
  · intro h
    refine ⟨h.1, i64_inj ?_, h.2.2⟩
    rw [← (tk3 h.1).1]; exact h.2.1
  · intro h
    exact ⟨h.1, by rw [(tk3 h.1).1, h.2.1], h.2.2⟩
/-- no sign of this rank goes on here, or the class stops at it too -/
def NS (tf : DD) (tp : Nat) (ky : Int32) (r j : Nat) (t : MS) : Prop := r ≤ opR tf tp j → opR tf tp j = 3 ∧ stpM tf tp ky j t = none
/-! codes -/
def xm (ky c : Int32) : Int32 := if ky = 1 then (if c = 10000 then 10004 else if c = 10001 then 10005 else c) else if ky = 2 then (if c = 10001 then 10002 else c) else c
def gd : List Int32 → Nat → Option Nat
  | [], n => some n
  | x :: c, n => if x < 20000 then gd c (n + 1) else if x = 20033 then (if 1 ≤ n then gd c n else none) else if 2 ≤ n then gd c (n - 1) else none
def cOK (ky x : Int32) : Prop := x < 10000 ∨ (∃ j : Nat, j < (if ky = 0 then 4 else 2) ∧ x = nI (10000 + j)) ∨ x = 20033 ∨ ∃ s : Int32, isSgn s ∧ x = 20000 + s
def CG (ky : Int32) (c : List Int32) : Prop := (∀ n, gd c n = some (n + 1)) ∧ ∀ x ∈ c, cOK ky x
theorem gd_app : ∀ (a b : List Int32) (n m : Nat), gd a n = some m → gd (a ++ b) n = gd b m
  | [], b, n, m, h => by cases h; rfl
  | x :: a, b, n, m, h => by
    show (if x < 20000 then gd (a ++ b) (n + 1) else if x = 20033 then (if 1 ≤ n then gd (a ++ b) n else none) else if 2 ≤ n then gd (a ++ b) (n - 1) else none) = _
    have h' : (if x < 20000 then gd a (n + 1) else if x = 20033 then (if 1 ≤ n then gd a n else none) else if 2 ≤ n then gd a (n - 1) else none) = some m := h
    by_cases c1 : x < 20000
    · rw [if_pos c1] at h' ⊢; exact gd_app a b _ m h'
    · rw [if_neg c1] at h' ⊢
      by_cases c2 : x = 20033
      · rw [if_pos c2] at h' ⊢
        by_cases c3 : 1 ≤ n
        · rw [if_pos c3] at h' ⊢; exact gd_app a b _ m h'
        · rw [if_neg c3] at h'; cases h'
      · rw [if_neg c2] at h' ⊢
        by_cases c3 : 2 ≤ n
        · rw [if_pos c3] at h' ⊢; exact gd_app a b _ m h'
        · rw [if_neg c3] at h'; cases h'
theorem rk_sgn {c : Int32} (h : ¬ rk c = 0) : isSgn c := by
  unfold rk at h
  unfold isSgn
  grind
theorem sgn_big {s : Int32} (h : isSgn s) : ¬ (20000 + s) < 20000 ∧ ¬ (20000 + s) = 20033 := by
  rcases h with e | e | e | e | e | e | e | e | e <;> rw [e] <;> decide
theorem CG.bin {c1 c2 : List Int32} {s : Int32} (h1 : CG ky c1) (h2 : CG ky c2) (hs : ¬ rk s = 0) : CG ky (c1 ++ (c2 ++ [20000 + s])) := by
  have hg := sgn_big (rk_sgn hs)
  refine ⟨fun n => ?_, fun x hx => ?_⟩
  · rw [gd_app _ _ _ _ (h1.1 n), gd_app _ _ _ _ (h2.1 (n + 1))]
    show (if _ then _ else if _ then _ else if 2 ≤ n + 1 + 1 then some (n + 1 + 1 - 1) else none) = _
    rw [if_neg hg.1, if_neg hg.2, if_pos (by omega)]; rfl
  · rcases List.mem_append.mp hx with z | z
    · exact h1.2 x z
    · rcases List.mem_append.mp z with y | y
      · exact h2.2 x y
      · rw [List.mem_singleton] at y
        exact Or.inr (Or.inr (Or.inr ⟨s, rk_sgn hs, y⟩))
theorem CG.not {c : List Int32} (h : CG ky c) : CG ky (c ++ [20033]) := by
  refine ⟨fun n => ?_, fun x hx => ?_⟩
  · rw [gd_app _ _ _ _ (h.1 n)]
    show (if (20033 : Int32) < 20000 then _ else if (20033 : Int32) = 20033 then (if 1 ≤ n + 1 then some (n + 1) else none) else _) = _
    rw [if_neg (by decide), if_pos rfl, if_pos (by omega)]
  · rcases List.mem_append.mp hx with z | z
    · exact h.2 x z
    · rw [List.mem_singleton] at z
      exact Or.inr (Or.inr (Or.inl z))
theorem CG.one {v : Int32} (h : cOK ky v) (hl : v < 20000) : CG ky [v] := by
  refine ⟨fun n => ?_, fun x hx => ?_⟩
  · show (if v < 20000 then some (n + 1) else _) = _
    rw [if_pos hl]
  · rw [List.mem_singleton] at hx
    rw [hx]; exact h
theorem xm_sgn {s : Int32} (h : isSgn s) : xm ky (20000 + s) = 20000 + s := by
  unfold xm
  rcases h with e | e | e | e | e | e | e | e | e <;> rw [e] <;> simp
theorem xm_not : xm ky 20033 = 20033 := by unfold xm; simp
end PAR
