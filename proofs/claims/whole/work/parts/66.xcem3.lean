/-! the class's search for the same set -/
section CEM3
variable {ft : TXC} {d : DD} {m ni n : Nat}
abbrev useP (d : DD) (h : Nat) : Prop := ¬ d (10 + 5 * h + 2) = d (10 + 5 * h + 1) ∧ ¬ d (10 + 5 * h + 0) = 5
/-- the least is among the sets that the class tries -/
theorem min_in {b U M0 M1 : Nat} (hI : InvH d) (hn : d 0 = nI m) (hm : m ≤ 10) (hni : d 1 = nI ni) (hbn : ni + n < 1000000) (hb : b < 2 ^ m) (hv : cemV ft d n b) (hmin : ∀ s, s < 2 ^ m → cemV ft d n s → cnt b 10 ≤ cnt s 10)
    (hU : U < 1024) (hUb : ∀ h, U.testBit h = decide (h < m ∧ useP d h)) (hM0 : ∀ h, M0.testBit h = true → h < m ∧ ¬ d (10 + 5 * h + 0) = 2 ∧ d 2 ≤ slackF ft (upd (cemE ft d n 0) 5 0) h) (hM1 : ∀ h, M1.testBit h = true → h < m ∧ ¬ d (10 + 5 * h + 0) = 2 ∧ d 2 ≤ slackF ft (upd (cemE ft d n U) 5 0) h) :
    b &&& lessN U M1 = b ∧ b &&& M0 = M0 := by
  have hp := pow_le10 hm
  have hb4 : b < 1024 := by omega
  have hUse : ∀ h, b.testBit h = true → h < m ∧ useP d h := by
    intro h hh
    have hhm : h < m := by
      rcases Nat.lt_or_ge h m with z | z
      · exact z
      · rw [bit_hi hb z] at hh; cases hh
    refine ⟨hhm, ?_⟩
    by_cases q : useP d h
    · exact q
    · exfalso
      have hu : d (10 + 5 * h + 2) = d (10 + 5 * h + 1) ∨ d (10 + 5 * h + 0) = 5 := by
        by_cases z : d (10 + 5 * h + 2) = d (10 + 5 * h + 1)
        · exact Or.inl z
        · exact Or.inr (Decidable.byContradiction (fun y => q ⟨z, y⟩))
      have h1 := cem_less (ft := ft) (n := n) hI hn hm hni hbn hb4 hhm hh hu hv
      have hbit : ∀ i, (lessN b (2 ^ h)).testBit i = (b.testBit i && !decide (h = i)) := fun i => by rw [less_bit, Nat.testBit_two_pow]
      have h2 : lessN b (2 ^ h) ≤ b := by
        have e : lessN b (2 ^ h) &&& b = lessN b (2 ^ h) := sub_iff.mpr (fun i hi => by rw [hbit] at hi; simp at hi; exact hi.1)
        rw [← e]; exact Nat.and_le_right
      have h3 := cnt_lt (s := lessN b (2 ^ h)) (t := b) (j := h) (fun i hi => by rw [hbit] at hi; simp at hi; exact hi.1) hh (by rw [hbit]; simp) 10 (by omega)
      have h4 := hmin _ (by omega) h1
      omega
  constructor
  · refine sub_iff.mpr (fun h hh => ?_)
    obtain ⟨hhm, hu⟩ := hUse h hh
    rw [less_bit, hUb]
    have e1 : decide (h < m ∧ useP d h) = true := decide_eq_true ⟨hhm, hu⟩
    rw [e1]
    cases z : M1.testBit h with
    | false => rfl
    | true =>
      exfalso
      obtain ⟨-, h2, hl⟩ := hM1 h z
      refine cem_loud hI hn hm hni hbn hU hb4 hhm h2 (Or.inr ?_) hl hv
      rw [if_pos hh, if_pos (by rw [hUb]; exact e1)]
  · rw [Nat.and_comm]
    refine sub_iff.mpr (fun h hh => ?_)
    obtain ⟨hhm, h2, hl⟩ := hM0 h hh
    cases z : b.testBit h with
    | true => rfl
    | false =>
      exfalso
      refine cem_loud hI hn hm hni hbn (s := 0) (by omega) hb4 hhm h2 (Or.inr ?_) hl hv
      rw [z, Nat.zero_testBit]
/-- one that is loud in it and out of it -/
theorem cem_none {U M0 M1 h t : Nat} (hI : InvH d) (hn : d 0 = nI m) (hm : m ≤ 10) (hni : d 1 = nI ni) (hbn : ni + n < 1000000) (ht : t < 1024)
    (hU : U < 1024) (hUb : ∀ h, U.testBit h = decide (h < m ∧ useP d h)) (hM0 : ∀ h, M0.testBit h = true → h < m ∧ ¬ d (10 + 5 * h + 0) = 2 ∧ d 2 ≤ slackF ft (upd (cemE ft d n 0) 5 0) h) (hM1 : ∀ h, M1.testBit h = true → h < m ∧ ¬ d (10 + 5 * h + 0) = 2 ∧ d 2 ≤ slackF ft (upd (cemE ft d n U) 5 0) h) (h0 : M0.testBit h = true) (h1 : M1.testBit h = true) : ¬ cemV ft d n t := by
  obtain ⟨hhm, h2, hl0⟩ := hM0 h h0
  obtain ⟨-, -, hl1⟩ := hM1 h h1
  cases z : t.testBit h with
  | false =>
    refine cem_loud hI hn hm hni hbn (s := 0) (by omega) ht hhm h2 (Or.inr ?_) hl0
    rw [z, Nat.zero_testBit]
  | true =>
    by_cases q : useP d h
    · refine cem_loud hI hn hm hni hbn hU ht hhm h2 (Or.inr ?_) hl1
      rw [if_pos z, if_pos (by rw [hUb]; exact decide_eq_true ⟨hhm, q⟩)]
    · refine cem_loud hI hn hm hni hbn hU ht hhm h2 ?_ hl1
      by_cases y : d (10 + 5 * h + 0) = 5
      · exact Or.inl y
      · right
        have e : d (10 + 5 * h + 2) = d (10 + 5 * h + 1) := Decidable.byContradiction (fun w => q ⟨w, y⟩)
        rw [if_pos z, e, ite_self]
theorem cem_ear0 {t : Nat} (hI : InvH d) (hn : d 0 = nI m) (hm : m ≤ 10) (h0 : 0 < m) (he : d 2 = 0) : ¬ cemV ft d n t := by
  intro hv
  have hIt : InvH (cemE ft d n t) := inv_nights (inv_fit hI)
  exact (cemV_iff hn hm).mp hv 0 h0 (by rw [he]; exact (slack_rng (ft := ft) hIt 0).1)
theorem R_cem_none {x : Int32} (hn : d 0 = nI m) (hm : m ≤ 10) (hx : 0 ≤ x ∧ x ≤ 20) (hc : x.toNatClampNeg = n) (h : ∀ t, t < 2 ^ m → ¬ cemV ft d n t) : R_cement ft d x = -1000000005 := by
  have hp := pow_le10 hm
  unfold R_cement
  rw [if_pos hx, hc, nH_of hn hm]
  rcases cemB_spec (ft := ft) (d := d) (n := n) (2 ^ m) hp with ⟨e, -⟩ | ⟨b, -, hb, hv, -⟩
  · rw [e, if_pos (by decide)]
  · exact absurd hv (h b hb)
theorem R_cem_hit {x : Int32} {s U M0 M1 : Nat} (hI : InvH d) (hn : d 0 = nI m) (hm : m ≤ 10) (hni : d 1 = nI ni) (hbn : ni + n < 1000000) (hx : 0 ≤ x ∧ x ≤ 20) (hc : x.toNatClampNeg = n)
    (hU : U < 1024) (hUb : ∀ h, U.testBit h = decide (h < m ∧ useP d h)) (hM0 : ∀ h, M0.testBit h = true → h < m ∧ ¬ d (10 + 5 * h + 0) = 2 ∧ d 2 ≤ slackF ft (upd (cemE ft d n 0) 5 0) h) (hM1 : ∀ h, M1.testBit h = true → h < m ∧ ¬ d (10 + 5 * h + 0) = 2 ∧ d 2 ≤ slackF ft (upd (cemE ft d n U) 5 0) h)
    (hs : s < 2 ^ m) (hv : cemV ft d n s) (h1 : ∀ t, t < 2 ^ m → cemV ft d n t → t &&& lessN U M1 = t → t &&& M0 = M0 → cnt s 10 ≤ cnt t 10) (h2 : ∀ t, t < s → cemV ft d n t → t &&& lessN U M1 = t → t &&& M0 = M0 → cnt t 10 ≠ cnt s 10) : R_cement ft d x = nI s := by
  have hp := pow_le10 hm
  unfold R_cement
  rw [if_pos hx, hc, nH_of hn hm]
  rcases cemB_spec (ft := ft) (d := d) (n := n) (2 ^ m) hp with ⟨-, h⟩ | ⟨b, e, hb, hvb, hmin⟩
  · exact absurd hv (h s hs)
  · have hin := min_in hI hn hm hni hbn hb hvb (fun t ht hvt => by rcases hmin t ht hvt with z | z <;> omega) hU hUb hM0 hM1
    have a1 := h1 b hb hvb hin.1 hin.2
    have hbs : b = s := by
      rcases hmin s hs hv with z | ⟨z, y⟩
      · omega
      · rcases Nat.lt_or_ge b s with w | w
        · exact absurd z (h2 b w hvb hin.1 hin.2)
        · omega
    rw [e, if_neg (nI_pos (by omega)), hbs]
theorem R_cem_end {x : Int32} {U M0 M1 : Nat} (hI : InvH d) (hn : d 0 = nI m) (hm : m ≤ 10) (hni : d 1 = nI ni) (hbn : ni + n < 1000000) (hx : 0 ≤ x ∧ x ≤ 20) (hc : x.toNatClampNeg = n)
    (hU : U < 1024) (hUb : ∀ h, U.testBit h = decide (h < m ∧ useP d h)) (hM0 : ∀ h, M0.testBit h = true → h < m ∧ ¬ d (10 + 5 * h + 0) = 2 ∧ d 2 ≤ slackF ft (upd (cemE ft d n 0) 5 0) h) (hM1 : ∀ h, M1.testBit h = true → h < m ∧ ¬ d (10 + 5 * h + 0) = 2 ∧ d 2 ≤ slackF ft (upd (cemE ft d n U) 5 0) h)
    (h1 : ∀ t, t < 2 ^ m → cemV ft d n t → t &&& lessN U M1 = t → t &&& M0 = M0 → m < cnt t 10) : R_cement ft d x = -1000000005 := by
  have hp := pow_le10 hm
  unfold R_cement
  rw [if_pos hx, hc, nH_of hn hm]
  rcases cemB_spec (ft := ft) (d := d) (n := n) (2 ^ m) hp with ⟨e, -⟩ | ⟨b, e, hb, hvb, hmin⟩
  · rw [e, if_pos (by decide)]
  · have hin := min_in hI hn hm hni hbn hb hvb (fun t ht hvt => by rcases hmin t ht hvt with z | z <;> omega) hU hUb hM0 hM1
    have a1 := h1 b hb hvb hin.1 hin.2
    have a2 := (cnt_le (s := b) hb 10).2
    omega
/-- what the class works out ahead of its search -/
theorem cem_sets {e : DD} (he2 : e 2 = d 2) (hm : m ≤ 10) : ∃ L, L < 1024 ∧ loudF ft e m &&& (setF (fun h => d (10 + 5 * h + 0) = 2) m ^^^ (-1)) = nI L ∧ ∀ h, L.testBit h = decide ((h < m ∧ d 2 ≤ slackF ft e h) ∧ ¬ d (10 + 5 * h + 0) = 2) := by
  have hp := pow_le10 hm
  obtain ⟨a, ha, e1, b1⟩ := setF_nat (P := fun h => e 2 ≤ slackF ft e h) m hm
  obtain ⟨b, hb, e2, b2⟩ := setF_nat (P := fun h => d (10 + 5 * h + 0) = 2) m hm
  have hl : loudF ft e m = nI a := e1
  refine ⟨lessN a b, less_lt (by omega), by rw [hl, e2]; exact less_nat (by omega) (by omega), fun h => ?_⟩
  rw [less_bit, b1, b2, he2]
  by_cases q : h < m
  · by_cases z : d (10 + 5 * h + 0) = 2
    · simp [q, z]
    · simp [q, z]
  · simp [q]
theorem loud0_still {e : DD} (hn : nH e = m) (hm : m ≤ 10) : loudF ft e m = 0 ↔ stillB ft e = true := by
  have hp := pow_le10 hm
  obtain ⟨a, ha, e1, b1⟩ := setF_nat (P := fun h => e 2 ≤ slackF ft e h) m hm
  have hl : loudF ft e m = nI a := e1
  rw [hl, still_iff hn]
  constructor
  · intro z h hh hs
    have h0 : a = 0 := (nI_eq (b := 0) (by omega) (by omega)).mp z
    have := b1 h
    rw [h0, Nat.zero_testBit] at this
    exact absurd (decide_eq_true (show h < m ∧ e 2 ≤ slackF ft e h from ⟨hh, hs⟩)) (by rw [← this]; decide)
  · intro h
    have : a = 0 := zero_of_bits (fun i => by rw [b1]; exact decide_eq_false (fun z => h i z.1 z.2))
    rw [this]; rfl
end CEM3
