/-! sets as Nats -/
theorem and_nat {a b : Nat} (ha : a < 1024) (hb : b < 1024) : nI a &&& nI b = nI (a &&& b) := by
  apply Int32.toBitVec_inj.mp
  rw [Int32.toBitVec_and]
  apply BitVec.eq_of_toNat_eq
  have h : (a &&& b) ≤ a := Nat.and_le_left
  rw [BitVec.toNat_and, pk_tn (by omega), pk_tn (by omega), pk_tn (by omega)]
theorem xor_nat {a b : Nat} (ha : a < 1024) (hb : b < 1024) : nI a ^^^ nI b = nI (a ^^^ b) := by
  apply Int32.toBitVec_inj.mp
  rw [Int32.toBitVec_xor]
  apply BitVec.eq_of_toNat_eq
  have h : (a ^^^ b) < 2 ^ 10 := Nat.xor_lt_two_pow (by omega) (by omega)
  rw [BitVec.toNat_xor, pk_tn (by omega), pk_tn (by omega), pk_tn (by omega)]
theorem and_not (x y : Int32) : x &&& (y ^^^ (-1)) = x ^^^ (x &&& y) := by
  apply Int32.toBitVec_inj.mp
  rw [Int32.toBitVec_and, Int32.toBitVec_xor, Int32.toBitVec_xor, Int32.toBitVec_and]
  have e : (-1 : Int32).toBitVec = BitVec.allOnes 32 := by decide
  rw [e]
  apply BitVec.eq_of_getLsbD_eq
  intro i hi
  simp only [BitVec.getLsbD_and, BitVec.getLsbD_xor, BitVec.getLsbD_allOnes, hi, decide_true]
  cases x.toBitVec.getLsbD i <;> cases y.toBitVec.getLsbD i <;> rfl
/-- those of a that are not of b -/
def lessN (a b : Nat) : Nat := a ^^^ (a &&& b)
theorem less_nat {a b : Nat} (ha : a < 1024) (hb : b < 1024) : nI a &&& (nI b ^^^ (-1)) = nI (lessN a b) := by
  have h : (a &&& b) ≤ a := Nat.and_le_left
  rw [and_not, and_nat ha hb, xor_nat ha (by omega)]; rfl
theorem less_lt {a b : Nat} (ha : a < 1024) : lessN a b < 1024 := by
  have h : (a &&& b) ≤ a := Nat.and_le_left
  exact Nat.xor_lt_two_pow (n := 10) (by omega) (by omega)
theorem less_bit (a b h : Nat) : (lessN a b).testBit h = (a.testBit h && !b.testBit h) := by
  unfold lessN
  rw [Nat.testBit_xor, Nat.testBit_and]
  cases a.testBit h <;> cases b.testBit h <;> rfl
theorem sub_iff {s t : Nat} : s &&& t = s ↔ ∀ h, s.testBit h = true → t.testBit h = true := by
  constructor
  · intro e h hs
    rw [← e, Nat.testBit_and] at hs
    simp at hs
    exact hs.2
  · intro hh
    apply Nat.eq_of_testBit_eq
    intro i
    rw [Nat.testBit_and]
    cases hs : s.testBit i with
    | false => rfl
    | true => rw [hh i hs]; rfl
theorem zero_of_bits {s : Nat} (h : ∀ i, s.testBit i = false) : s = 0 := Nat.eq_of_testBit_eq (fun i => by rw [h i, Nat.zero_testBit])
theorem bit_hi {s m h : Nat} (hs : s < 2 ^ m) (h2 : m ≤ h) : s.testBit h = false := Nat.testBit_lt_two_pow (Nat.lt_of_lt_of_le hs (Nat.pow_le_pow_right (by omega) h2))
theorem bit_test {s h : Nat} (hs : s < 1024) (hh : h < 10) : ((nI s >>> (nI h &&& 31) &&& 1) = 1) ↔ s.testBit h = true := by
  have : ∀ s : Fin 1024, ∀ h : Fin 10, decide ((nI s.val >>> (nI h.val &&& 31) &&& 1) = 1) = s.val.testBit h.val := by decide +kernel
  have h1 := this ⟨s, hs⟩ ⟨h, hh⟩
  rw [← h1]
  exact decide_eq_true_iff.symm
theorem setF_nat {P : Nat → Prop} [DecidablePred P] : ∀ m, m ≤ 10 → ∃ U, U < 2 ^ m ∧ setF P m = nI U ∧ ∀ h, U.testBit h = decide (h < m ∧ P h)
  | 0, _ => ⟨0, by omega, rfl, fun h => by rw [Nat.zero_testBit]; simp⟩
  | m + 1, hm => by
    obtain ⟨U, hU, e, hb⟩ := setF_nat (P := P) m (by omega)
    have hp : 2 ^ (m + 1) = 2 * 2 ^ m := by rw [Nat.pow_succ]; omega
    have hle := pow_le10 (n := m) (by omega)
    by_cases q : P m
    · have h2 : (U ||| 2 ^ m) < 2 ^ (m + 1) := Nat.or_lt_two_pow (by omega) (by omega)
      refine ⟨U ||| 2 ^ m, h2, ?_, fun h => ?_⟩
      · rw [setF_t q, e, shl_pow m (by omega)]
        apply Int32.toBitVec_inj.mp
        rw [Int32.toBitVec_or]
        apply BitVec.eq_of_toNat_eq
        rw [BitVec.toNat_or, pk_tn (by omega), pk_tn (by omega), pk_tn (by omega)]
      · rw [Nat.testBit_or, hb, Nat.testBit_two_pow]
        by_cases z : m = h
        · subst z; simp [q]
        · have e1 : decide (m = h) = false := decide_eq_false z
          rw [e1, Bool.or_false]
          by_cases y : P h
          · simp [y]; omega
          · simp [y]
    · refine ⟨U, by omega, by rw [setF_f q]; exact e, fun h => ?_⟩
      rw [hb]
      by_cases z : h = m
      · subst z; simp [q]
      · by_cases y : P h
        · simp [y]; omega
        · simp [y]
/-- how many there are -/
def cnt (s : Nat) : Nat → Nat
  | 0 => 0
  | n + 1 => cnt s n + (if s.testBit n = true then 1 else 0)
theorem ones_cnt {s : Nat} (hs : s < 1024) : onesF (nI s) = nI (cnt s 10) := by
  have : ∀ s : Fin 1024, onesF (nI s.val) = nI (cnt s.val 10) := by decide +kernel
  exact this ⟨s, hs⟩
theorem cnt_mono {s t : Nat} (h : ∀ i, s.testBit i = true → t.testBit i = true) : ∀ n, cnt s n ≤ cnt t n
  | 0 => Nat.le_refl _
  | n + 1 => by
    have ih := cnt_mono h n
    show cnt s n + _ ≤ cnt t n + _
    by_cases q : s.testBit n = true
    · rw [if_pos q, if_pos (h n q)]; omega
    · rw [if_neg q]; omega
theorem cnt_lt {s t j : Nat} (h : ∀ i, s.testBit i = true → t.testBit i = true) (h1 : t.testBit j = true) (h0 : s.testBit j = false) : ∀ n, j < n → cnt s n < cnt t n
  | 0, hj => absurd hj (by omega)
  | n + 1, hj => by
    show cnt s n + _ < cnt t n + _
    by_cases q : j = n
    · subst q
      have := cnt_mono h j
      rw [if_neg (by rw [h0]; decide), if_pos h1]; omega
    · have ih := cnt_lt h h1 h0 n (by omega)
      by_cases q : s.testBit n = true
      · rw [if_pos q, if_pos (h n q)]; omega
      · rw [if_neg q]; omega
theorem cnt_le {s m : Nat} (hs : s < 2 ^ m) : ∀ n, cnt s n ≤ n ∧ cnt s n ≤ m
  | 0 => ⟨Nat.le_refl _, Nat.zero_le _⟩
  | n + 1 => by
    have ih := cnt_le hs n
    show cnt s n + _ ≤ n + 1 ∧ cnt s n + _ ≤ m
    by_cases q : s.testBit n = true
    · have : n < m := by
        rcases Nat.lt_or_ge n m with z | z
        · exact z
        · rw [bit_hi hs z] at q; cases q
      rw [if_pos q]; omega
    · rw [if_neg q]; omega
/-! made to fit: a set's houses alone -/
theorem fit_oth {x : Int32} {d : DD} {k : Nat} : ∀ m, (∀ h, h < m → k ≠ 10 + 5 * h + 2) → itn (fitOne x) m d k = d k
  | 0, _ => rfl
  | m + 1, hk => by
    show fitOne x m (itn (fitOne x) m d) k = _
    have ih := fit_oth (x := x) (d := d) m (fun h hh => hk h (by omega))
    generalize itn (fitOne x) m d = y at ih ⊢
    unfold fitOne
    rw [upd_ne (hk m (by omega))]
    exact ih
theorem fit_pl {x : Int32} {d : DD} {h : Nat} : ∀ m, h < m → itn (fitOne x) m d (10 + 5 * h + 2) = if (x >>> (nI h &&& 31) &&& 1) = 1 then d (10 + 5 * h + 1) else d (10 + 5 * h + 2)
  | 0, hh => absurd hh (by omega)
  | m + 1, hh => by
    show fitOne x m (itn (fitOne x) m d) (10 + 5 * h + 2) = _
    by_cases q : h = m
    · subst q
      have a1 := fit_oth (x := x) (d := d) (k := 10 + 5 * h + 1) h (fun i hi => by omega)
      have a2 := fit_oth (x := x) (d := d) (k := 10 + 5 * h + 2) h (fun i hi => by omega)
      generalize itn (fitOne x) h d = y at a1 a2 ⊢
      unfold fitOne
      rw [upd_eq, a1, a2]
    · have ih := fit_pl (x := x) (d := d) (h := h) m (by omega)
      generalize itn (fitOne x) m d = y at ih ⊢
      unfold fitOne
      rw [upd_ne (by omega)]
      exact ih
/-! what one house's numbers hang on -/
def RelH (h : Nat) (e1 e2 : DD) : Prop := (∀ k, k < 10 → k ≠ 5 → k ≠ 6 → k ≠ 7 → e1 k = e2 k) ∧ e1 (10 + 5 * h + 0) = e2 (10 + 5 * h + 0) ∧ e1 (10 + 5 * h + 1) = e2 (10 + 5 * h + 1) ∧ e1 (10 + 5 * h + 3) = e2 (10 + 5 * h + 3) ∧ (e1 (10 + 5 * h + 0) = 5 ∨ e1 (10 + 5 * h + 2) = e2 (10 + 5 * h + 2))
def trZ (z tr n : Int32) : Int32 := if remF (dwF (zF z)) 100 < tr ∧ 0 < n then zF (zF (zF z)) else zF z
def trP (z tr n : Int32) (h : Nat) (p : Int32) : Int32 := if remF (dwF (zF z)) 100 < tr ∧ 0 < n then (if h = (remF (dwF (zF (zF z))) n).toNatClampNeg then remF (dwF (zF (zF (zF z)))) 100 else p) else p
theorem tread_8 {y : DD} : treadF y 8 = trZ (y 8) (y 4) (y 0) := by
  unfold treadF trZ
  simp only
  have e4 : drawF y 4 = y 4 := drawF_lo (by omega)
  have e0 : drawF y 0 = y 0 := drawF_lo (by omega)
  have e8 : drawF y 8 = zF (y 8) := upd_eq
  rw [e4, e0, e8]
  split
  · rw [upd_ne (by omega)]
    show upd _ 8 _ 8 = _
    rw [upd_eq]
    show zF (upd _ 8 _ 8) = _
    rw [upd_eq, e8]
  · exact e8
theorem tread_2 {y : DD} {h : Nat} : treadF y (10 + 5 * h + 2) = trP (y 8) (y 4) (y 0) h (y (10 + 5 * h + 2)) := by
  unfold treadF trP
  simp only
  have e4 : drawF y 4 = y 4 := drawF_lo (by omega)
  have e0 : drawF y 0 = y 0 := drawF_lo (by omega)
  have e8 : drawF y 8 = zF (y 8) := upd_eq
  have f8 : drawF (drawF y) 8 = zF (zF (y 8)) := by show upd _ 8 _ 8 = _; rw [upd_eq, e8]
  have g8 : drawF (drawF (drawF y)) 8 = zF (zF (zF (y 8))) := by show upd _ 8 _ 8 = _; rw [upd_eq, f8]
  rw [e4, e0, e8, f8, g8]
  split
  · by_cases q : h = (remF (dwF (zF (zF (y 8)))) (y 0)).toNatClampNeg
    · rw [if_pos q, ← q, upd_eq]
    · rw [if_neg q, upd_ne (by omega), drawF_lo (by omega), drawF_lo (by omega), drawF_lo (by omega)]
  · rw [drawF_lo (by omega)]
theorem del_lo {ft : TXC} {d : DD} {n ni k : Nat} (hk : k < 10) (h5 : k ≠ 5) (h6 : k ≠ 6) (h7 : k ≠ 7) : delN ft d n ni k = d k := by
  unfold delN
  split
  · rw [deliverF_lo hk h7, roundF_lo hk h5 h6]
  · rw [roundF_lo hk h5 h6]
theorem plain_cg {ft : TXC} {e1 e2 : DD} {h : Nat} (h0 : e1 0 = e2 0) (a1 : e1 (10 + 5 * h + 1) = e2 (10 + 5 * h + 1)) (a2 : e1 (10 + 5 * h + 2) = e2 (10 + 5 * h + 2)) (a3 : e1 (10 + 5 * h + 3) = e2 (10 + 5 * h + 3)) : plainF ft e1 h = plainF ft e2 h := by
  unfold plainF
  rw [h0, a1, a2, a3]
/-- a plate is shut or not, whatever the tune is (but for a lodging) -/
theorem slack_z {ft : TXC} {e : DD} {h : Nat} (hI : InvH e) (h2 : ¬ e (10 + 5 * h + 0) = 2) : slackF ft e h = 0 ↔ (if e (10 + 5 * h + 0) = 1 then plainF ft e h / 2 = 0 else if e (10 + 5 * h + 0) = 3 then held (plainF ft e h / 2 - 5) 0 99 = 0 else if e (10 + 5 * h + 0) = 4 then False else if e (10 + 5 * h + 0) = 5 then False else plainF ft e h = 0) := by
  unfold slackF
  by_cases c1 : e (10 + 5 * h + 0) = 1
  · rw [if_pos c1, if_pos c1]
  · rw [if_neg c1, if_neg c1, if_neg h2]
    by_cases c3 : e (10 + 5 * h + 0) = 3
    · rw [if_pos c3, if_pos c3]
    · rw [if_neg c3, if_neg c3]
      by_cases c4 : e (10 + 5 * h + 0) = 4
      · rw [if_pos c4, if_pos c4]
        obtain ⟨a, ha, ea⟩ := rng_nat (m := 99) (by omega) (show 0 ≤ lodgF ft e h from (held_rng _ 99 (by decide)).1) (show lodgF ft e h ≤ nI 99 from (held_rng _ 99 (by decide)).2)
        rw [ea, show nI a + 10 = nI a + nI 10 from rfl, held_nadd ha (by omega)]
        constructor
        · intro z
          have := (nI_eq (b := 0) (by omega) (by omega)).mp z
          omega
        · exact fun z => z.elim
      · rw [if_neg c4, if_neg c4]
        by_cases c5 : e (10 + 5 * h + 0) = 5
        · rw [if_pos c5, if_pos c5]; decide
        · rw [if_neg c5, if_neg c5]
theorem slack_z2 {ft : TXC} {e1 e2 : DD} {h : Nat} (hI1 : InvH e1) (hI2 : InvH e2) (h2 : ¬ e1 (10 + 5 * h + 0) = 2) (h0 : e1 0 = e2 0) (ak : e1 (10 + 5 * h + 0) = e2 (10 + 5 * h + 0)) (a1 : e1 (10 + 5 * h + 1) = e2 (10 + 5 * h + 1)) (a3 : e1 (10 + 5 * h + 3) = e2 (10 + 5 * h + 3)) (a2 : e1 (10 + 5 * h + 0) = 5 ∨ e1 (10 + 5 * h + 2) = e2 (10 + 5 * h + 2)) : slackF ft e1 h = 0 ↔ slackF ft e2 h = 0 := by
  rw [slack_z hI1 h2, slack_z hI2 (by rw [← ak]; exact h2), ← ak]
  rcases a2 with q | q
  · rw [q]; simp
  · rw [plain_cg h0 a1 q a3]
theorem rel_night {ft : TXC} {e1 e2 : DD} {h m nk : Nat} (hI1 : InvH e1) (hI2 : InvH e2) (hn : e1 0 = nI m) (hm : m ≤ 10) (hnk : e1 1 = nI nk) (hnk2 : nk < 1000000) (hh : h < m) (h2 : ¬ e1 (10 + 5 * h + 0) = 2) (hR : RelH h e1 e2) : RelH h (nightF ft e1) (nightF ft e2) := by
  obtain ⟨hl, ak, a1, a3, a2⟩ := hR
  have hn2 : e2 0 = nI m := by rw [← hl 0 (by omega) (by omega) (by omega) (by omega)]; exact hn
  have hnk' : e2 1 = nI nk := by rw [← hl 1 (by omega) (by omega) (by omega) (by omega)]; exact hnk
  have hr1 : InvH (roundF ft e1) := inv_round hI1
  have hr2 : InvH (roundF ft e2) := inv_round hI2
  have hx3 : delN ft e1 m nk (10 + 5 * h + 3) = delN ft e2 m nk (10 + 5 * h + 3) := by
    by_cases q : nk % m = h
    · unfold delN
      rw [if_pos (by omega), if_pos (by omega), q]
      have hz : slackF ft (roundF ft e1) h = 0 ↔ slackF ft (roundF ft e2) h = 0 := by
        refine slack_z2 hr1 hr2 ?_ ?_ ?_ ?_ ?_ ?_
        · rw [round_off hI1 hn hm (by omega)]; exact h2
        · rw [roundF_lo (by omega) (by omega) (by omega), roundF_lo (by omega) (by omega) (by omega), hn, hn2]
        · rw [round_off hI1 hn hm (by omega), round_off hI2 hn2 hm (by omega)]; exact ak
        · rw [round_off hI1 hn hm (by omega), round_off hI2 hn2 hm (by omega)]; exact a1
        · rw [round_off hI1 hn hm (by omega), round_off hI2 hn2 hm (by omega)]; exact a3
        · rw [round_off hI1 hn hm (by omega), round_off hI1 hn hm (by omega), round_off hI2 hn2 hm (by omega)]; exact a2
      have r3 : roundF ft e1 (10 + 5 * h + 3) = roundF ft e2 (10 + 5 * h + 3) := by rw [round_off hI1 hn hm (by omega), round_off hI2 hn2 hm (by omega)]; exact a3
      have rl : roundF ft e1 3 = roundF ft e2 3 := by rw [roundF_lo (by omega) (by omega) (by omega), roundF_lo (by omega) (by omega) (by omega)]; exact hl 3 (by omega) (by omega) (by omega) (by omega)
      unfold deliverF
      by_cases z : slackF ft (roundF ft e1) h = 0
      · rw [if_pos z, if_pos (hz.mp z), upd_ne (by omega), upd_ne (by omega)]; exact r3
      · rw [if_neg z, if_neg (fun y => z (hz.mpr y)), upd_eq, upd_eq, r3, rl]
    · rw [del_off hI1 hn hm (by omega) (Or.inr q), del_off hI2 hn2 hm (by omega) (Or.inr q)]; exact a3
  have hx0 : delN ft e1 m nk (10 + 5 * h + 0) = delN ft e2 m nk (10 + 5 * h + 0) := by rw [del_off hI1 hn hm (by omega) (by omega), del_off hI2 hn2 hm (by omega) (by omega)]; exact ak
  have hx1 : delN ft e1 m nk (10 + 5 * h + 1) = delN ft e2 m nk (10 + 5 * h + 1) := by rw [del_off hI1 hn hm (by omega) (by omega), del_off hI2 hn2 hm (by omega) (by omega)]; exact a1
  have E1 := night_del (ft := ft) hn hm hnk hnk2
  have E2 := night_del (ft := ft) hn2 hm hnk' hnk2
  have L1 : ∀ k, k < 10 → k ≠ 5 → k ≠ 6 → k ≠ 7 → itn burnF m (delN ft e1 m nk) k = e1 k := fun k hk h5 h6 h7 => (burnF_lo hk).trans (del_lo hk h5 h6 h7)
  have L2 : ∀ k, k < 10 → k ≠ 5 → k ≠ 6 → k ≠ 7 → itn burnF m (delN ft e2 m nk) k = e2 k := fun k hk h5 h6 h7 => (burnF_lo hk).trans (del_lo hk h5 h6 h7)
  refine ⟨fun k hk h5 h6 h7 => ?_, ?_, ?_, ?_, ?_⟩
  · by_cases k1 : k = 1
    · rw [k1, nightF_1, nightF_1, hnk, hnk']
    · by_cases k8 : k = 8
      · rw [k8, E1, E2, upd_ne (by omega), upd_ne (by omega), tread_8, tread_8, L1 8 (by omega) (by omega) (by omega) (by omega), L1 4 (by omega) (by omega) (by omega) (by omega), L1 0 (by omega) (by omega) (by omega) (by omega), L2 8 (by omega) (by omega) (by omega) (by omega), L2 4 (by omega) (by omega) (by omega) (by omega), L2 0 (by omega) (by omega) (by omega) (by omega), hl 8 (by omega) (by omega) (by omega) (by omega), hl 4 (by omega) (by omega) (by omega) (by omega), hl 0 (by omega) (by omega) (by omega) (by omega)]
      · rw [nightF_lo hk h5 h6 h7 k8 k1, nightF_lo hk h5 h6 h7 k8 k1]; exact hl k hk h5 h6 h7
  · rw [night_kind hI1 hn hm hnk hnk2, night_kind hI2 hn2 hm hnk' hnk2]; exact ak
  · rw [E1, E2, upd_ne (by omega), upd_ne (by omega), tread_off (by omega) (by omega), tread_off (by omega) (by omega), burn_str m hh, burn_str m hh, hx1, bends_cg hx0 hx3]
  · rw [E1, E2, upd_ne (by omega), upd_ne (by omega), tread_off (by omega) (by omega), tread_off (by omega) (by omega), burn_coal m hh, burn_coal m hh, hx3, burns_cg hx0]
  · rcases a2 with q | q
    · left; rw [night_kind hI1 hn hm hnk hnk2]; exact q
    · right
      rw [E1, E2, upd_ne (by omega), upd_ne (by omega), tread_2, tread_2, L1 8 (by omega) (by omega) (by omega) (by omega), L1 4 (by omega) (by omega) (by omega) (by omega), L1 0 (by omega) (by omega) (by omega) (by omega), L2 8 (by omega) (by omega) (by omega) (by omega), L2 4 (by omega) (by omega) (by omega) (by omega), L2 0 (by omega) (by omega) (by omega) (by omega), burn_oth (e := delN ft e1 m nk) (j := h) (w := 2) (by omega) (by omega) (by omega), burn_oth (e := delN ft e2 m nk) (j := h) (w := 2) (by omega) (by omega) (by omega), del_off hI1 hn hm (by omega) (by omega), del_off hI2 hn2 hm (by omega) (by omega), hl 8 (by omega) (by omega) (by omega) (by omega), hl 4 (by omega) (by omega) (by omega) (by omega), hl 0 (by omega) (by omega) (by omega) (by omega), q]
theorem rel_nights {ft : TXC} {e1 e2 : DD} {h m nk : Nat} (hI1 : InvH e1) (hI2 : InvH e2) (hn : e1 0 = nI m) (hm : m ≤ 10) (hnk : e1 1 = nI nk) (hh : h < m) (h2 : ¬ e1 (10 + 5 * h + 0) = 2) (hR : RelH h e1 e2) : ∀ N, nk + N < 1000000 → RelH h (nightsF ft N e1) (nightsF ft N e2)
  | 0, _ => hR
  | N + 1, hN => by
    have ih := rel_nights (ft := ft) hI1 hI2 hn hm hnk hh h2 hR N (by omega)
    have hk := nights_kind (ft := ft) (j := h) hI1 hn hm hnk N (by omega)
    have hI1' : InvH (nightsF ft N e1) := inv_nights hI1
    have hI2' : InvH (nightsF ft N e2) := inv_nights hI2
    have h0 : nightsF ft N e1 0 = nI m := by rw [nightsF_lo (by omega) (by omega) (by omega) (by omega) (by omega) (by omega)]; exact hn
    have h1 := nightsF_1 (ft := ft) hnk N
    show RelH h (nightF ft (nightsF ft N e1)) (nightF ft (nightsF ft N e2))
    exact rel_night hI1' hI2' h0 hm h1 (by omega) hh (by rw [hk]; exact h2) ih
/-! without the tune -/
theorem slack_5 {ft : TXC} {e : DD} {h : Nat} (h5 : e (10 + 5 * h + 0) = 5) : slackF ft e h = 50 := by
  unfold slackF
  rw [h5, if_neg (show ¬ (5 : Int32) = 1 by decide), if_neg (show ¬ (5 : Int32) = 2 by decide), if_neg (show ¬ (5 : Int32) = 3 by decide), if_neg (show ¬ (5 : Int32) = 4 by decide), if_pos rfl]
theorem slackN_cg {ft : TXC} {e1 e2 : DD} {h : Nat} (hR : RelH h e1 e2) : slackF ft (upd e1 5 0) h = slackF ft (upd e2 5 0) h := by
  obtain ⟨hl, ak, a1, a3, a2⟩ := hR
  have u : ∀ (e : DD) w, upd e 5 0 (10 + 5 * h + w) = e (10 + 5 * h + w) := fun e w => upd_ne (by omega)
  rcases a2 with q | q
  · rw [slack_5 ((u e1 0).trans q), slack_5 ((u e2 0).trans (ak.symm.trans q))]
  · have hp : plainF ft (upd e1 5 0) h = plainF ft (upd e2 5 0) h := by
      refine plain_cg ?_ ?_ ?_ ?_
      · rw [upd_ne (by omega), upd_ne (by omega)]; exact hl 0 (by omega) (by omega) (by omega) (by omega)
      · rw [u, u]; exact a1
      · rw [u, u]; exact q
      · rw [u, u]; exact a3
    have hg : lodgF ft (upd e1 5 0) h = lodgF ft (upd e2 5 0) h := by unfold lodgF; rw [hp, upd_eq, upd_eq]
    unfold slackF
    rw [u, u, ak, hp, hg]
theorem slackN_le {ft : TXC} {e : DD} {h : Nat} (hI : InvH e) (h2 : ¬ e (10 + 5 * h + 0) = 2) : slackF ft (upd e 5 0) h ≤ slackF ft e h := by
  have u : ∀ w, upd e 5 0 (10 + 5 * h + w) = e (10 + 5 * h + w) := fun w => upd_ne (by omega)
  have hp : plainF ft (upd e 5 0) h = plainF ft e h := plain_cg (upd_ne (by omega)) (u 1) (u 2) (u 3)
  by_cases c4 : e (10 + 5 * h + 0) = 4
  · have n1 : ¬ (4 : Int32) = 1 := by decide
    have n2 : ¬ (4 : Int32) = 2 := by decide
    have n3 : ¬ (4 : Int32) = 3 := by decide
    unfold slackF
    rw [u, c4, if_neg n1, if_neg n1, if_neg n2, if_neg n2, if_neg n3, if_neg n3, if_pos rfl, if_pos rfl]
    unfold lodgF
    rw [hp, upd_eq]
    obtain ⟨t, ht, et⟩ := inv_t hI
    have ho := (ones_rng ht (((1 : Int32) <<< (nI h &&& 31)) ^^^ (-1))).2
    have hz := (ones_rng (a := 0) (by omega) (((1 : Int32) <<< (nI h &&& 31)) ^^^ (-1))).2
    have hz0 : onesF (0 &&& (((1 : Int32) <<< (nI h &&& 31)) ^^^ (-1))) = 0 := by rw [Int32.zero_and]; decide
    rw [et, hz0]
    obtain ⟨b, hb, eb⟩ := rng_nat (m := 10) (by omega) ho.1 ho.2
    have hpr := plain_rng (ft := ft) hI h
    obtain ⟨a, ha, ea⟩ := rng_nat (m := 99) (by omega) hpr.1 hpr.2
    rw [eb, ea, show (2 : Int32) * nI b = nI (2 * b) from pk_mul 2 b, show (2 : Int32) * 0 = nI 0 from rfl, held_nadd ha (by omega), held_nadd ha (by omega), show nI (min (a + 0) 99) + 10 = nI (min (a + 0) 99) + nI 10 from rfl, show nI (min (a + 2 * b) 99) + 10 = nI (min (a + 2 * b) 99) + nI 10 from rfl, held_nadd (by omega) (by omega), held_nadd (by omega) (by omega)]
    exact nI_le (by omega) (by omega)
  · unfold slackF
    rw [u, hp, if_neg h2, if_neg h2, if_neg c4, if_neg c4]
    exact Int32.le_refl _
