/-! the class's ways of saying the same numbers -/
theorem abs_size (x : Int32) : (if 0 ≤ x then x else 0 - x) = sizeF x := by
  unfold sizeF
  by_cases h : x < 0
  · rw [if_pos h, if_neg (Int32.not_le.mpr h), Int32.zero_sub]
  · rw [if_neg h, if_pos (Int32.not_lt.mp h)]
theorem max_held {x : Int32} (h : x ≤ 99) : (if 0 < x then x else 0) = held x 0 99 := by unfold held; grind
theorem min_held {x hi : Int32} (h : 0 ≤ x) (hh : 0 ≤ hi) : (if x < hi then x else hi) = held x 0 hi := by unfold held; grind
theorem sl_manse {p : Int32} (h0 : 0 ≤ p) (h1 : p ≤ 99) : (if 0 < p / 2 - 5 then p / 2 - 5 else 0) = held (p / 2 - 5) 0 99 := by
  have := half_rng h0 h1
  exact max_held (by grind)
theorem sl_lodg {p b : Int32} (h0 : 0 ≤ p) (h1 : p ≤ 99) (h2 : 0 ≤ b) (h3 : b ≤ 10) : (if p + 2 * b < 99 then p + 2 * b else 99) = held (p + 2 * b) 0 99 := min_held (by grind) (by decide)
theorem sl_club {x : Int32} (h0 : 0 ≤ x) (h1 : x ≤ 99) : (if x + 10 < 99 then x + 10 else 99) = held (x + 10) 0 99 := min_held (by grind) (by decide)
theorem bends_club (x : Int32) : (2 : Int32) - x = -1 - x + 3 := by grind
theorem burns_k {d : DD} {j : Nat} {k : Nat} (hk : k ≤ 5) (e : d (10 + 5 * j + 0) = nI k) : buF k = burnsF d j := by
  unfold burnsF
  rw [e]
  rcases (show k = 0 ∨ k = 1 ∨ k = 2 ∨ k = 3 ∨ k = 4 ∨ k = 5 by omega) with rfl | rfl | rfl | rfl | rfl | rfl <;> rfl
/-! a terrace's cells behind an act -/
def TwEq (e : DD) (v0 v9 v5 v6 v7 v1 v8 : Int32) (c0 c1 c2 c3 c4 rl : DD) : Prop := e 0 = v0 ∧ e 9 = v9 ∧ e 5 = v5 ∧ e 6 = v6 ∧ e 7 = v7 ∧ e 1 = v1 ∧ e 8 = v8 ∧ col e 0 = c0 ∧ col e 1 = c1 ∧ col e 2 = c2 ∧ col e 3 = c3 ∧ col e 4 = c4 ∧ rulF e = rl
theorem tw_wd {g : GG} {A : Nat → Prop} {s : State} {H : Heap} {locs : List Loc} {t : Nat} {lad ad : Nat → Nat} {e cn c0 c1 c2 c3 c4 rl : DD} {v0 v9 v5 v6 v7 v1 v8 : Int32} {rest : BW} (h : TwEq e v0 v9 v5 v6 v7 v1 v8 c0 c1 c2 c3 c4 rl)
    (hw : WD g A s H locs ([bO t 4 (tF (lad 0) ad v0 v9 v5 v6 v7 v1 v8), bI g (ad 1) 10 c0, bI g (ad 2) 10 c1, bI g (ad 3) 10 c2, bI g (ad 4) 10 c3, bI g (ad 5) 10 c4, bI g (ad 6) 3 rl, bI g (ad 7) 3 cn] ++ rest)) :
    WD g A s H locs ([bO t 4 (tF (lad 0) ad (e 0) (e 9) (e 5) (e 6) (e 7) (e 1) (e 8)), bI g (ad 1) 10 (col e 0), bI g (ad 2) 10 (col e 1), bI g (ad 3) 10 (col e 2), bI g (ad 4) 10 (col e 3), bI g (ad 5) 10 (col e 4), bI g (ad 6) 3 (rulF e), bI g (ad 7) 3 cn] ++ rest) := by
  obtain ⟨rfl, rfl, rfl, rfl, rfl, rfl, rfl, rfl, rfl, rfl, rfl, rfl, rfl⟩ := h
  exact hw
theorem tw_lo {d : DD} {k : Nat} {v : Int32} (hk : k < 10) (h2 : k < 2 ∨ 4 < k) : TwEq (upd d k v) (upd d k v 0) (upd d k v 9) (upd d k v 5) (upd d k v 6) (upd d k v 7) (upd d k v 1) (upd d k v 8) (col d 0) (col d 1) (col d 2) (col d 3) (col d 4) (rulF d) :=
  ⟨rfl, rfl, rfl, rfl, rfl, rfl, rfl, col_lo d k 0 v hk, col_lo d k 1 v hk, col_lo d k 2 v hk, col_lo d k 3 v hk, col_lo d k 4 v hk, rul_ne d k v h2⟩
/-- one number of one house -/
theorem tw_house {d : DD} (i w : Nat) (v : Int32) (hw : w < 5) : TwEq (upd d (10 + 5 * i + w) v) (d 0) (d 9) (d 5) (d 6) (d 7) (d 1) (d 8) (if w = 0 then upd (col d 0) i v else col d 0) (if w = 1 then upd (col d 1) i v else col d 1) (if w = 2 then upd (col d 2) i v else col d 2) (if w = 3 then upd (col d 3) i v else col d 3) (if w = 4 then upd (col d 4) i v else col d 4) (rulF d) := by
  refine ⟨upd_ne (by omega), upd_ne (by omega), upd_ne (by omega), upd_ne (by omega), upd_ne (by omega), upd_ne (by omega), upd_ne (by omega), ?_, ?_, ?_, ?_, ?_, rul_ne _ _ _ (by omega)⟩
  · split
    · rename_i h; subst h; exact (col_upd d i 0 v).symm
    · rename_i h; exact col_ne d i 0 w v (Ne.symm h) (by omega) hw
  · split
    · rename_i h; subst h; exact (col_upd d i 1 v).symm
    · rename_i h; exact col_ne d i 1 w v (Ne.symm h) (by omega) hw
  · split
    · rename_i h; subst h; exact (col_upd d i 2 v).symm
    · rename_i h; exact col_ne d i 2 w v (Ne.symm h) (by omega) hw
  · split
    · rename_i h; subst h; exact (col_upd d i 3 v).symm
    · rename_i h; exact col_ne d i 3 w v (Ne.symm h) (by omega) hw
  · split
    · rename_i h; subst h; exact (col_upd d i 4 v).symm
    · rename_i h; exact col_ne d i 4 w v (Ne.symm h) (by omega) hw
/-- HEARD as the class counts it -/
def hdF (ft : TXC) (d : DD) (i : Nat) : DD := itn (fun h f => if d 2 ≤ slackF ft d h then upd f h (if f h + 1 < 9999 then f h + 1 else 9999) else f) i (col d 4)
theorem or_bit_ne {t n h : Nat} (ht : t < 2 ^ n) (hn : n ≤ 9) (hh : h < n) : ((nI t ||| nI (2 ^ n)) >>> (nI h &&& 31) &&& 1) = (nI t >>> (nI h &&& 31) &&& 1) := by
  have : ∀ n : Fin 10, ∀ h : Fin 10, h.val < n.val → ∀ t : Fin (2 ^ n.val), ((nI t.val ||| nI (2 ^ n.val)) >>> (nI h.val &&& 31) &&& 1) = (nI t.val >>> (nI h.val &&& 31) &&& 1) := by decide +kernel
  exact this ⟨n, by omega⟩ ⟨h, by omega⟩ hh ⟨t, ht⟩
theorem or_bit_eq {t n : Nat} (ht : t < 2 ^ n) (hn : n ≤ 9) : ((nI t ||| nI (2 ^ n)) >>> (nI n &&& 31) &&& 1) = 1 ∧ (nI t >>> (nI n &&& 31) &&& 1) = 0 := by
  have : ∀ n : Fin 10, ∀ t : Fin (2 ^ n.val), ((nI t.val ||| nI (2 ^ n.val)) >>> (nI n.val &&& 31) &&& 1) = 1 ∧ (nI t.val >>> (nI n.val &&& 31) &&& 1) = 0 := by decide +kernel
  exact this ⟨n, by omega⟩ ⟨t, ht⟩
/-- house h is in the set that clanks, or not -/
theorem loud_bit {ft : TXC} {d : DD} {h : Nat} : ∀ n, n ≤ 10 → h < n → (loudF ft d n >>> (nI h &&& 31) &&& 1) = if d 2 ≤ slackF ft d h then 1 else 0
  | 0, _, hh => absurd hh (by omega)
  | n + 1, hn, hh => by
    obtain ⟨t, ht, e⟩ := loud_lt (ft := ft) (d := d) n (by omega)
    show ((loudF ft d n ||| (if d 2 ≤ slackF ft d n then (1 : Int32) <<< (nI n &&& 31) else 0)) >>> (nI h &&& 31) &&& 1) = _
    rcases Nat.lt_or_ge h n with q | q
    · rw [← loud_bit n (by omega) q]
      split
      · rw [e, shl_pow n (by omega)]; exact or_bit_ne ht (by omega) q
      · rw [Int32.or_zero]
    · have hq : h = n := by omega
      subst hq
      split
      · rw [e, shl_pow h (by omega)]; exact (or_bit_eq ht (by omega)).1
      · rw [Int32.or_zero, e]; exact (or_bit_eq ht (by omega)).2
theorem hd_round {ft : TXC} {d : DD} {n : Nat} (hI : InvH d) (hn : n ≤ 10) : ∀ i, i ≤ n → hdF ft d i = col (itn (heardF (loudF ft d n)) i (upd d 5 (loudF ft d n))) 4
  | 0, _ => by
    show col d 4 = col (upd d 5 (loudF ft d n)) 4
    rw [col_lo _ _ _ _ (by omega)]
  | i + 1, hi => by
    have ih := hd_round (ft := ft) hI hn i (by omega)
    have hl := loud_bit (ft := ft) (d := d) (h := i) n hn (by omega)
    show (if d 2 ≤ slackF ft d i then upd (hdF ft d i) i (if hdF ft d i i + 1 < 9999 then hdF ft d i i + 1 else 9999) else hdF ft d i) = col (heardF (loudF ft d n) i (itn (heardF (loudF ft d n)) i (upd d 5 (loudF ft d n)))) 4
    have hII : InvH (itn (heardF (loudF ft d n)) i (upd d 5 (loudF ft d n))) := by
      obtain ⟨t, ht, e2⟩ := loud_lt (ft := ft) (d := d) n hn
      have hp := pow_le10 hn
      exact inv_heard (inv_upd hI (fun u hu => by
        cases hu
        rw [e2]
        exact ⟨nI_pos' (by omega), nI_le (b := 1023) (by omega) (by omega)⟩))
    rw [ih]
    generalize itn (heardF (loudF ft d n)) i (upd d 5 (loudF ft d n)) = e at hII ⊢
    unfold heardF
    rw [hl, ← col_upd]
    have hb := inv_at hII i 4 (by omega)
    have hb2 : e (10 + 5 * i + 4) ≤ 9999 := hb.2
    show _ = upd (col e 4) i _
    by_cases c : d 2 ≤ slackF ft d i
    · rw [if_pos c, if_pos c]
      congr 1
      exact min_held (by have := hb.1; show 0 ≤ e (10 + 5 * i + 4) + 1; grind) (by decide)
    · rw [if_neg c, if_neg c]
      funext j
      by_cases q : j = i
      · rw [q, upd_eq, Int32.add_zero]
        unfold held
        rw [if_neg (Int32.not_lt.mpr hb.1), if_neg (Int32.not_lt.mpr hb2)]
        rfl
      · rw [upd_ne q]
theorem heard_col {st : Int32} {n : Nat} {d : DD} {w : Nat} (hw : w < 4) : col (itn (heardF st) n d) w = col d w :=
  itn_inv (fun e : DD => col e w = col d w) rfl (fun j y _ h => by show col (heardF st j y) w = col d w; unfold heardF; rw [col_ne _ _ _ _ _ (by omega) (by omega) (by omega)]; exact h)
theorem heard_rul {st : Int32} {n : Nat} {d : DD} : rulF (itn (heardF st) n d) = rulF d :=
  itn_inv (fun e : DD => rulF e = rulF d) rfl (fun j y _ h => by show rulF (heardF st j y) = rulF d; unfold heardF; rw [rul_ne _ _ _ (by omega)]; exact h)
theorem tw_round {ft : TXC} {d : DD} {n : Nat} (hI : InvH d) (hn : d 0 = nI n) (hn10 : n ≤ 10) : TwEq (roundF ft d) (d 0) (d 9) (loudF ft d n) (held (d 6 + onesF (loudF ft d n)) 0 99999) (d 7) (d 1) (d 8) (col d 0) (col d 1) (col d 2) (col d 3) (hdF ft d n) (rulF d) := by
  have hnn := nH_of hn hn10
  refine ⟨roundF_lo (by omega) (by omega) (by omega), roundF_lo (by omega) (by omega) (by omega), ?_, ?_, roundF_lo (by omega) (by omega) (by omega), roundF_lo (by omega) (by omega) (by omega), roundF_lo (by omega) (by omega) (by omega), ?_, ?_, ?_, ?_, ?_, ?_⟩
  · unfold roundF; (try simp only); rw [hnn, upd_ne (by omega), heardF_lo (by omega), upd_eq]
  · unfold roundF; (try simp only); rw [hnn, upd_eq, heardF_lo (by omega), upd_ne (by omega)]
  · unfold roundF; simp only; rw [hnn, col_lo _ _ _ _ (by omega), heard_col (by omega), col_lo _ _ _ _ (by omega)]
  · unfold roundF; simp only; rw [hnn, col_lo _ _ _ _ (by omega), heard_col (by omega), col_lo _ _ _ _ (by omega)]
  · unfold roundF; simp only; rw [hnn, col_lo _ _ _ _ (by omega), heard_col (by omega), col_lo _ _ _ _ (by omega)]
  · unfold roundF; simp only; rw [hnn, col_lo _ _ _ _ (by omega), heard_col (by omega), col_lo _ _ _ _ (by omega)]
  · unfold roundF; simp only; rw [hnn, col_lo _ _ _ _ (by omega), hd_round hI hn10 n (Nat.le_refl _)]
  · unfold roundF; simp only; rw [hnn, rul_ne _ _ _ (by omega), heard_rul, rul_ne _ _ _ (by omega)]
theorem n_rng {d : DD} {n : Nat} (hn : d 0 = nI n) (hn10 : n ≤ 10) : 0 ≤ d 0 ∧ d 0 ≤ 10 := by
  rw [hn]; exact ⟨nI_pos' (by omega), nI_le (b := 10) (by omega) (by omega)⟩
/-- names of fit are 0 .. 3 -/
def okNm (m : Nat) (len : Nat) (tc : DD) : Prop := ∀ k, k < len → ¬ tc k < 10000 → tc k < 20000 → ∃ j, j < m ∧ tc k = nI (10000 + j)
def okF (ft : TXC) : Prop := ∀ q, ft = some q → okC q.1 q.2 ∧ okSg q.1 q.2 ∧ okNm 4 q.1 q.2
theorem evst_congr {f h : Int32 → Int32} {tc : DD} : ∀ k, (∀ i, i < k → ¬ tc i < 10000 → tc i < 20000 → f (tc i) = h (tc i)) → evst f tc k = evst h tc k
  | 0, _ => rfl
  | k + 1, hk => by
    show estep f (tc k) (evst f tc k) = estep h (tc k) (evst h tc k)
    rw [evst_congr k (fun i hi => hk i (by omega))]
    unfold estep
    by_cases c1 : tc k < 10000
    · rw [if_pos c1, if_pos c1]
    · rw [if_neg c1, if_neg c1]
      by_cases c2 : tc k < 20000
      · rw [if_pos c2, if_pos c2, hk k (by omega) c1 c2]
      · rw [if_neg c2, if_neg c2]
theorem eval_fit {x y z w : Int32} {nm tc : DD} {len : Nat} (h : okNm 4 len tc) : evalF (nmX (upd (upd (upd (upd nm 0 x) 1 y) 2 z) 3 w)) len tc = evalF (nmF x y z w) len tc := by
  unfold evalF
  rw [evst_congr len]
  intro i hi c1 c2
  obtain ⟨j, hj, e⟩ := h i hi c1 c2
  rw [e]
  rcases (show j = 0 ∨ j = 1 ∨ j = 2 ∨ j = 3 by omega) with rfl | rfl | rfl | rfl <;> rfl
