/-! bounds that every state of d keeps -/
def hiH (w : Nat) : Int32 := if w = 0 then 5 else if w = 4 then 9999 else 99
def bnd (k : Nat) : Option Int32 := if k = 0 then some 10 else if k = 2 then some 99 else if k = 3 then some 99 else if k = 4 then some 100 else if k = 5 then some 1023 else if k = 6 then some 99999 else if k = 7 then some 99999 else if 10 ≤ k then some (hiH ((k - 10) % 5)) else none
def InvH (d : DD) : Prop := ∀ k u, bnd k = some u → 0 ≤ d k ∧ d k ≤ u
theorem bnd_h (j w : Nat) (hw : w < 5) : bnd (10 + 5 * j + w) = some (hiH w) := by
  unfold bnd
  rw [if_neg (by omega), if_neg (by omega), if_neg (by omega), if_neg (by omega), if_neg (by omega), if_neg (by omega), if_neg (by omega), if_pos (by omega), show (10 + 5 * j + w - 10) % 5 = w by omega]
theorem inv_upd {d : DD} {k : Nat} {v : Int32} (h : InvH d) (hv : ∀ u, bnd k = some u → 0 ≤ v ∧ v ≤ u) : InvH (upd d k v) := by
  intro j u hj
  by_cases e : j = k
  · subst e; rw [upd_eq]; exact hv u hj
  · rw [upd_ne e]; exact h j u hj
theorem inv_house {d : DD} {j w : Nat} {v : Int32} (h : InvH d) (hw : w < 5) (h0 : 0 ≤ v) (h1 : v ≤ hiH w) : InvH (upd d (10 + 5 * j + w) v) := by
  refine inv_upd h (fun u hu => ?_)
  rw [bnd_h j w hw] at hu
  cases hu
  exact ⟨h0, h1⟩
theorem inv_at {d : DD} (h : InvH d) (j w : Nat) (hw : w < 5) : 0 ≤ d (10 + 5 * j + w) ∧ d (10 + 5 * j + w) ≤ hiH w := h _ _ (bnd_h j w hw)
theorem inv_n {d : DD} (h : InvH d) : ∃ n, n ≤ 10 ∧ d 0 = nI n := by
  have := h 0 10 rfl
  exact rng_nat (m := 10) (by omega) this.1 this.2
theorem inv_t {d : DD} (h : InvH d) : ∃ t, t < 1024 ∧ d 5 = nI t := by
  have := h 5 1023 rfl
  obtain ⟨t, h1, h2⟩ := rng_nat (m := 1023) (by omega) this.1 this.2
  exact ⟨t, by omega, h2⟩
theorem held_rng (v hi : Int32) (h : 0 ≤ hi) : 0 ≤ held v 0 hi ∧ held v 0 hi ≤ hi := by unfold held; grind
theorem size_rng {x y : Int32} (h1 : 0 ≤ x) (h2 : x ≤ 99) (h3 : 0 ≤ y) (h4 : y ≤ 99) : 0 ≤ sizeF (x - y) ∧ sizeF (x - y) ≤ 99 := by
  obtain ⟨a, ha, rfl⟩ := rng_nat (m := 99) (by omega) h1 h2
  obtain ⟨b, hb, rfl⟩ := rng_nat (m := 99) (by omega) h3 h4
  unfold sizeF
  by_cases h : b ≤ a
  · rw [pk_sub h, if_neg (nI_pos (by omega))]
    exact ⟨nI_pos' (by omega), nI_le (b := 99) (by omega) (by omega)⟩
  · rw [if_pos (pk_sneg (by omega) (by omega)), Int32.neg_sub, pk_sub (by omega)]
    exact ⟨nI_pos' (by omega), nI_le (b := 99) (by omega) (by omega)⟩
theorem plain_rng {ft : TXC} {d : DD} (h : InvH d) (j : Nat) : 0 ≤ plainF ft d j ∧ plainF ft d j ≤ 99 := by
  unfold plainF
  cases ft with
  | none =>
    have h1 := inv_at h j 1 (by omega)
    have h2 := inv_at h j 2 (by omega)
    exact size_rng h1.1 h1.2 h2.1 h2.2
  | some q => exact held_rng _ 99 (by decide)
theorem and_small {a : Nat} (ha : a < 1024) (x : Int32) : ∃ t, t < 1024 ∧ nI a &&& x = nI t := by
  refine ⟨(nI a &&& x).toBitVec.toNat, ?_, ?_⟩
  · rw [Int32.toBitVec_and, BitVec.toNat_and, pk_tn (by omega)]
    exact Nat.lt_of_le_of_lt Nat.and_le_left ha
  · apply Int32.toBitVec_inj.mp
    apply BitVec.eq_of_toNat_eq
    rw [pk_tn (BitVec.isLt _)]
theorem ones_rng {a : Nat} (ha : a < 1024) (x : Int32) : bitF (nI a &&& x) = onesF (nI a &&& x) ∧ 0 ≤ onesF (nI a &&& x) ∧ onesF (nI a &&& x) ≤ 10 := by
  obtain ⟨t, ht, e⟩ := and_small ha x
  obtain ⟨k, hk, e2⟩ := onesF_le t ht
  rw [e]
  refine ⟨bitF_ones t ht, ?_, ?_⟩
  · rw [e2]; exact nI_pos' (by omega)
  · rw [e2]; exact nI_le (b := 10) hk (by omega)
theorem half_rng {x : Int32} (h0 : 0 ≤ x) (h1 : x ≤ 99) : 0 ≤ x / 2 ∧ x / 2 ≤ 49 := by
  obtain ⟨p, hp, rfl⟩ := rng_nat (m := 99) (by omega) h0 h1
  rw [show (2 : Int32) = nI 2 from rfl, pk_div (by omega) (by omega) (by omega)]
  exact ⟨nI_pos' (by omega), nI_le (b := 49) (by omega) (by omega)⟩
theorem tenth_rng {x : Int32} (h0 : 0 ≤ x) (h1 : x ≤ 99) : 0 ≤ x / 10 ∧ x / 10 ≤ 9 := by
  obtain ⟨p, hp, rfl⟩ := rng_nat (m := 99) (by omega) h0 h1
  rw [show (10 : Int32) = nI 10 from rfl, pk_div (by omega) (by omega) (by omega)]
  exact ⟨nI_pos' (by omega), nI_le (b := 9) (by omega) (by omega)⟩
theorem slack_rng {ft : TXC} {d : DD} (h : InvH d) (j : Nat) : 0 ≤ slackF ft d j ∧ slackF ft d j ≤ 99 := by
  have hp := plain_rng (ft := ft) h j
  have hh := half_rng hp.1 hp.2
  have hl : 0 ≤ lodgF ft d j ∧ lodgF ft d j ≤ 99 := held_rng _ 99 (by decide)
  have h3 := held_rng (plainF ft d j / 2 - 5) 99 (by decide)
  have h4 := held_rng (lodgF ft d j + 10) 99 (by decide)
  unfold slackF
  grind
theorem bends_rng {d : DD} (h : InvH d) (j : Nat) : -10 ≤ bendsF d j ∧ bendsF d j ≤ 2 := by
  have h3 := inv_at h j 3 (by omega)
  have ht := tenth_rng h3.1 h3.2
  unfold bendsF
  grind
theorem burns_rng {d : DD} (j : Nat) : 0 ≤ burnsF d j ∧ burnsF d j ≤ 10 := by
  unfold burnsF
  grind
/-! it is kept -/
theorem inv_heard {d : DD} {st : Int32} {n : Nat} (h : InvH d) : InvH (itn (heardF st) n d) :=
  itn_inv InvH h (fun j y _ hy => inv_house hy (by omega) (held_rng _ 9999 (by decide)).1 (held_rng _ 9999 (by decide)).2)
theorem loud_lt {ft : TXC} {d : DD} : ∀ n, n ≤ 10 → ∃ t, t < 2 ^ n ∧ loudF ft d n = nI t
  | 0, _ => ⟨0, by omega, rfl⟩
  | n + 1, hn => by
    obtain ⟨t, ht, e⟩ := loud_lt (ft := ft) (d := d) n (by omega)
    show ∃ t, t < 2 ^ (n + 1) ∧ (loudF ft d n ||| (if d 2 ≤ slackF ft d n then (1 : Int32) <<< (nI n &&& 31) else 0)) = nI t
    have hp : 2 ^ (n + 1) = 2 * 2 ^ n := by rw [Nat.pow_succ]; omega
    have hle := pow_le10 (n := n) (by omega)
    split
    · refine ⟨t ||| 2 ^ n, Nat.or_lt_two_pow (by omega) (by omega), ?_⟩
      rw [e, shl_pow n (by omega)]
      apply Int32.toBitVec_inj.mp
      rw [Int32.toBitVec_or]
      apply BitVec.eq_of_toNat_eq
      have h2 : (t ||| 2 ^ n) < 2 ^ (n + 1) := Nat.or_lt_two_pow (by omega) (by omega)
      rw [BitVec.toNat_or, pk_tn (by omega), pk_tn (by omega), pk_tn (by omega)]
    · refine ⟨t, by omega, ?_⟩
      rw [e]
      exact Int32.or_zero
theorem inv_round {ft : TXC} {d : DD} (h : InvH d) : InvH (roundF ft d) := by
  obtain ⟨n, hn, e⟩ := inv_n h
  obtain ⟨t, ht, e2⟩ := loud_lt (ft := ft) (d := d) (nH d) (by rw [nH_of e hn]; exact hn)
  have hp := pow_le10 (n := nH d) (by rw [nH_of e hn]; exact hn)
  have h5 : InvH (upd d 5 (loudF ft d (nH d))) := inv_upd h (fun u hu => by
    cases hu
    rw [e2]
    exact ⟨nI_pos' (by omega), nI_le (b := 1023) (by omega) (by omega)⟩)
  refine inv_upd (inv_heard h5) (fun u hu => ?_)
  cases hu
  exact held_rng _ 99999 (by decide)
theorem inv_deliver {ft : TXC} {d : DD} {j : Nat} (h : InvH d) : InvH (deliverF ft d j) := by
  unfold deliverF
  split
  · refine inv_upd h (fun u hu => ?_)
    cases hu
    exact held_rng _ 99999 (by decide)
  · exact inv_house h (by omega) (held_rng _ 99 (by decide)).1 (held_rng _ 99 (by decide)).2
theorem inv_burn1 {d : DD} {j : Nat} (h : InvH d) : InvH (burnF j d) :=
  inv_house (inv_house h (by omega) (held_rng _ 99 (by decide)).1 (held_rng _ 99 (by decide)).2) (by omega) (held_rng _ 99 (by decide)).1 (held_rng _ 99 (by decide)).2
theorem inv_burn {d : DD} {n : Nat} (h : InvH d) : InvH (itn burnF n d) := itn_inv InvH h (fun j y _ hy => inv_burn1 hy)
theorem inv_draw {d : DD} (h : InvH d) : InvH (drawF d) := inv_upd h (fun u hu => by cases hu)
theorem rem100_rng (z : Int32) : 0 ≤ remF (dwF z) 100 ∧ remF (dwF z) 100 ≤ 99 := by
  obtain ⟨j, hj, e⟩ := dw_rem z (n := 100) (by omega) (by omega)
  rw [show (100 : Int32) = nI 100 from rfl, e]
  exact ⟨nI_pos' (by omega), nI_le (b := 99) (by omega) (by omega)⟩
theorem inv_tread {d : DD} (h : InvH d) : InvH (treadF d) := by
  unfold treadF
  simp only
  split
  · exact inv_house (inv_draw (inv_draw (inv_draw h))) (by omega) (rem100_rng _).1 (rem100_rng _).2
  · exact inv_draw h
theorem inv_night {ft : TXC} {d : DD} (h : InvH d) : InvH (nightF ft d) := by
  unfold nightF
  simp only
  refine inv_upd ?_ (fun u hu => by cases hu)
  refine inv_tread (inv_burn ?_)
  split
  · exact inv_deliver (inv_round h)
  · exact inv_round h
theorem inv_nights {ft : TXC} {d : DD} {n : Nat} (h : InvH d) : InvH (nightsF ft n d) := itn_inv InvH h (fun j y _ hy => inv_night hy)
