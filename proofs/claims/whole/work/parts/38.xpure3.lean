/-! terraces behind one more act -/
theorem tw_id (d : DD) : TwEq d (d 0) (d 9) (d 5) (d 6) (d 7) (d 1) (d 8) (col d 0) (col d 1) (col d 2) (col d 3) (col d 4) (rulF d) := ⟨rfl, rfl, rfl, rfl, rfl, rfl, rfl, rfl, rfl, rfl, rfl, rfl, rfl⟩
theorem tw_h {e c0 c1 c2 c3 c4 rl : DD} {v0 v9 v5 v6 v7 v1 v8 : Int32} (i w : Nat) (v : Int32) (hw : w < 5) (h : TwEq e v0 v9 v5 v6 v7 v1 v8 c0 c1 c2 c3 c4 rl) : TwEq (upd e (10 + 5 * i + w) v) v0 v9 v5 v6 v7 v1 v8 (if w = 0 then upd c0 i v else c0) (if w = 1 then upd c1 i v else c1) (if w = 2 then upd c2 i v else c2) (if w = 3 then upd c3 i v else c3) (if w = 4 then upd c4 i v else c4) rl := by
  obtain ⟨rfl, rfl, rfl, rfl, rfl, rfl, rfl, rfl, rfl, rfl, rfl, rfl, rfl⟩ := h
  exact tw_house i w v hw
theorem tw_l {e c0 c1 c2 c3 c4 rl : DD} {v0 v9 v5 v6 v7 v1 v8 : Int32} (k : Nat) (v : Int32) (hk : k < 10) (h2 : k < 2 ∨ 4 < k) (h : TwEq e v0 v9 v5 v6 v7 v1 v8 c0 c1 c2 c3 c4 rl) : TwEq (upd e k v) (if 0 = k then v else v0) (if 9 = k then v else v9) (if 5 = k then v else v5) (if 6 = k then v else v6) (if 7 = k then v else v7) (if 1 = k then v else v1) (if 8 = k then v else v8) c0 c1 c2 c3 c4 rl := by
  obtain ⟨rfl, rfl, rfl, rfl, rfl, rfl, rfl, rfl, rfl, rfl, rfl, rfl, rfl⟩ := h
  exact ⟨rfl, rfl, rfl, rfl, rfl, rfl, rfl, col_lo _ _ _ _ hk, col_lo _ _ _ _ hk, col_lo _ _ _ _ hk, col_lo _ _ _ _ hk, col_lo _ _ _ _ hk, rul_ne _ _ _ h2⟩
theorem tw_build {d : DD} {n : Nat} (hn : d 0 = nI n) (hn10 : n ≤ 10) (k st p c : Int32) : TwEq (buildF d k st p c) (d 0 + 1) (d 9) (d 5) (d 6) (d 7) (d 1) (d 8) (upd (col d 0) n k) (upd (col d 1) n st) (upd (col d 2) n p) (upd (col d 3) n c) (upd (col d 4) n 0) (rulF d) := by
  unfold buildF
  rw [nH_of hn hn10]
  exact tw_l 0 _ (by omega) (by omega) (tw_h n 4 _ (by omega) (tw_h n 3 _ (by omega) (tw_h n 2 _ (by omega) (tw_h n 1 _ (by omega) (tw_h n 0 _ (by omega) (tw_id d))))))
theorem tw_d4 (d : DD) : TwEq (drawF (drawF (drawF (drawF d)))) (drawF (drawF (drawF (drawF d))) 0) (drawF (drawF (drawF (drawF d))) 9) (drawF (drawF (drawF (drawF d))) 5) (drawF (drawF (drawF (drawF d))) 6) (drawF (drawF (drawF (drawF d))) 7) (drawF (drawF (drawF (drawF d))) 1) (drawF (drawF (drawF (drawF d))) 8) (col d 0) (col d 1) (col d 2) (col d 3) (col d 4) (rulF d) := by
  have c : ∀ w, col (drawF (drawF (drawF (drawF d)))) w = col d w := fun w => by rw [col_draw, col_draw, col_draw, col_draw]
  exact ⟨rfl, rfl, rfl, rfl, rfl, rfl, rfl, c 0, c 1, c 2, c 3, c 4, by rw [rul_draw, rul_draw, rul_draw, rul_draw]⟩
theorem lt10_ne {x : Int32} (h : x < 10) : ¬ x = 10 := by grind
theorem n10_eq {d : DD} {n : Nat} (hn : d 0 = nI n) (hn10 : n ≤ 10) (h : ¬ d 0 < 10) : d 0 = 10 := by
  rw [hn] at h ⊢
  have : n = 10 := by rw [show (10 : Int32) = nI 10 from rfl, nI_ltI (by omega) (by omega)] at h; omega
  rw [this]; rfl
/-! sets and the like -/
def setF (P : Nat → Prop) [DecidablePred P] (n : Nat) : Int32 := itn (fun h x => x ||| (if P h then (1 : Int32) <<< (nI h &&& 31) else 0)) n 0
theorem setF_t {P : Nat → Prop} [DecidablePred P] {n : Nat} (h : P n) : setF P (n + 1) = setF P n ||| ((1 : Int32) <<< (nI n &&& 31)) := by show (setF P n ||| (if P n then _ else 0)) = _; rw [if_pos h]
theorem setF_f {P : Nat → Prop} [DecidablePred P] {n : Nat} (h : ¬ P n) : setF P (n + 1) = setF P n := by show (setF P n ||| (if P n then _ else 0)) = _; rw [if_neg h, Int32.or_zero]
theorem coldF_set {d : DD} {n : Nat} (hn : nH d = n) : coldF d = setF (fun h => d (10 + 5 * h + 3) = 0) n := by unfold coldF; rw [hn]; rfl
def lbI (d : DD) (i : Nat) : Int32 := if i = 0 then -1000000005 else nI (loudestB d i)
def lmI (d : DD) (i : Nat) : Int32 := if i = 0 then -1 else d (10 + 5 * loudestB d i + 4)
theorem lb_le {d : DD} {i : Nat} (hI : InvH d) (h : d (10 + 5 * i + 4) ≤ lmI d i) : lbI d (i + 1) = lbI d i ∧ lmI d (i + 1) = lmI d i := by
  unfold lbI lmI at *
  by_cases q : i = 0
  · rw [if_pos q] at h
    have := (inv_at hI i 4 (by omega)).1
    exact absurd h (by grind)
  · rw [if_neg q] at h ⊢
    rw [if_neg (by omega), if_neg q, if_neg (by omega)]
    have e : loudestB d (i + 1) = loudestB d i := by
      show (if d (10 + 5 * loudestB d i + 4) < d (10 + 5 * i + 4) then i else loudestB d i) = _
      rw [if_neg (Int32.not_lt.mpr h)]
    rw [e]; exact ⟨rfl, rfl⟩
theorem lb_gt {d : DD} {i : Nat} (h : ¬ d (10 + 5 * i + 4) ≤ lmI d i) : lbI d (i + 1) = nI i ∧ lmI d (i + 1) = d (10 + 5 * i + 4) := by
  unfold lbI lmI at *
  rw [if_neg (by omega), if_neg (by omega)]
  have e : loudestB d (i + 1) = i := by
    by_cases q : i = 0
    · rw [q]; exact loudestB_1 d
    · rw [if_neg q] at h
      show (if d (10 + 5 * loudestB d i + 4) < d (10 + 5 * i + 4) then i else loudestB d i) = _
      rw [if_pos (Int32.not_le.mp h)]
  rw [e]; exact ⟨rfl, rfl⟩
theorem loudest_lb {d : DD} {n : Nat} (hn : nH d = n) : loudestF d = lbI d n := by unfold loudestF lbI; rw [hn]
def readingF (d : DD) (w : Int32) : Int32 := if w = 0 then d 6 else if w = 1 then d 7 else if w = 2 then coldF d else if w = 3 then d 5 else if w = 4 then sumF 3 d else -1000000001
def mcS (d : DD) (j ni n : Nat) (k : Nat) (c : Int32) : Int32 := held ((if (ni + k) % n = j then held (c + d 3) 0 99 else c) - burnsF d j) 0 99
def mcF (d : DD) (j ni n N : Nat) : Int32 := itn (mcS d j ni n) N (d (10 + 5 * j + 3))
theorem mc_rng {d : DD} {j ni n : Nat} (hI : InvH d) : ∀ N, 0 ≤ mcF d j ni n N ∧ mcF d j ni n N ≤ 99
  | 0 => inv_at hI j 3 (by omega)
  | N + 1 => held_rng _ 99 (by decide)
/-! what the class's fee and fine say -/
def nmE (o k c : Int32) : Int32 := if c = 10004 then o else k
def nmG (s c' c : Int32) : Int32 := if c = 10000 then s else c'
def feeX (fx : TXC) (d : DD) : Int32 := match fx with
  | none => d 6
  | some q => evalF (nmE (d 6) (d 7)) q.1 q.2
def fineX (fx : TXC) (d : DD) (j : Nat) : Int32 := match fx with
  | none => d (10 + 5 * j + 3)
  | some q => evalF (nmG (d (10 + 5 * j + 1)) (d (10 + 5 * j + 3))) q.1 q.2
def okN2 (a b : Int32) (fx : TXC) : Prop := ∀ q, fx = some q → okC q.1 q.2 ∧ okSg q.1 q.2 ∧ ∀ k, k < q.1 → ¬ q.2 k < 10000 → q.2 k < 20000 → q.2 k = a ∨ q.2 k = b
theorem eval_fee {x y : Int32} {nm tc : DD} {len : Nat} (h : ∀ k, k < len → ¬ tc k < 10000 → tc k < 20000 → tc k = 10004 ∨ tc k = 10005) : evalF (nmX (upd (upd nm 4 x) 5 y)) len tc = evalF (nmE x y) len tc := by
  unfold evalF
  rw [evst_congr len]
  intro i hi c1 c2
  rcases h i hi c1 c2 with e | e <;> rw [e] <;> rfl
theorem eval_fine {x y : Int32} {nm tc : DD} {len : Nat} (h : ∀ k, k < len → ¬ tc k < 10000 → tc k < 20000 → tc k = 10000 ∨ tc k = 10002) : evalF (nmX (upd (upd nm 0 x) 2 y)) len tc = evalF (nmG x y) len tc := by
  unfold evalF
  rw [evst_congr len]
  intro i hi c1 c2
  rcases h i hi c1 c2 with e | e <;> rw [e] <;> rfl
