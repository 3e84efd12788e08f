/-! an empty house's plate is nothing to anybody -/
theorem upd_cm {f : DD} {a b : Nat} {x y : Int32} (h : a ≠ b) : upd (upd f a x) b y = upd (upd f b y) a x := by
  funext j
  unfold upd
  by_cases h1 : j = a
  · by_cases h2 : j = b
    · exact absurd (h1.symm.trans h2) h
    · rw [if_neg h2, if_pos h1, if_pos h1]
  · by_cases h2 : j = b
    · rw [if_pos h2, if_neg h1, if_pos h2]
    · rw [if_neg h2, if_neg h1, if_neg h1, if_neg h2]
theorem upd_tw {f : DD} {a : Nat} {x y : Int32} : upd (upd f a x) a y = upd f a y := by
  funext j
  unfold upd
  by_cases h1 : j = a
  · rw [if_pos h1, if_pos h1]
  · rw [if_neg h1, if_neg h1, if_neg h1]
theorem slack_c {ft : TXC} {e : DD} {h i : Nat} {v : Int32} (h5 : e (10 + 5 * h + 0) = 5) : slackF ft (upd e (10 + 5 * h + 2) v) i = slackF ft e i := by
  by_cases q : i = h
  · subst q
    rw [slack_5 h5, slack_5 ((upd_ne (by omega)).trans h5)]
  · have hp : plainF ft (upd e (10 + 5 * h + 2) v) i = plainF ft e i := plain_cg (upd_ne (by omega)) (upd_ne (by omega)) (upd_ne (by omega)) (upd_ne (by omega))
    have hg : lodgF ft (upd e (10 + 5 * h + 2) v) i = lodgF ft e i := by unfold lodgF; rw [hp, upd_ne (by omega)]
    unfold slackF
    rw [hp, hg, upd_ne (by omega)]
theorem loud_s {ft : TXC} (d : DD) (n : Nat) : loudF ft d (n + 1) = loudF ft d n ||| (if d 2 ≤ slackF ft d n then (1 : Int32) <<< (nI n &&& 31) else 0) := rfl
theorem loud_0 {ft : TXC} (d : DD) : loudF ft d 0 = 0 := rfl
theorem loud_c {ft : TXC} {e : DD} {h : Nat} {v : Int32} (h5 : e (10 + 5 * h + 0) = 5) (n : Nat) : loudF ft (upd e (10 + 5 * h + 2) v) n = loudF ft e n := by
  have h2 : upd e (10 + 5 * h + 2) v 2 = e 2 := upd_ne (by omega)
  have hs : ∀ i, slackF ft (upd e (10 + 5 * h + 2) v) i = slackF ft e i := fun i => slack_c h5
  generalize upd e (10 + 5 * h + 2) v = y at h2 hs ⊢
  induction n with
  | zero => rw [loud_0, loud_0]
  | succ n ih => rw [loud_s, loud_s, ih, hs, h2]
theorem heard_c {st : Int32} {y : DD} {h : Nat} {v : Int32} : ∀ n, itn (heardF st) n (upd y (10 + 5 * h + 2) v) = upd (itn (heardF st) n y) (10 + 5 * h + 2) v
  | 0 => rfl
  | n + 1 => by
    show heardF st n (itn (heardF st) n (upd y (10 + 5 * h + 2) v)) = upd (heardF st n (itn (heardF st) n y)) (10 + 5 * h + 2) v
    rw [heard_c n]
    generalize itn (heardF st) n y = z
    unfold heardF
    rw [upd_ne (by omega)]
    exact upd_cm (by omega)
theorem round_c {ft : TXC} {e : DD} {h : Nat} {v : Int32} (h5 : e (10 + 5 * h + 0) = 5) : roundF ft (upd e (10 + 5 * h + 2) v) = upd (roundF ft e) (10 + 5 * h + 2) v := by
  unfold roundF
  have hn : nH (upd e (10 + 5 * h + 2) v) = nH e := by unfold nH; rw [upd_ne (by omega)]
  simp only
  rw [hn, loud_c h5, upd_cm (show 10 + 5 * h + 2 ≠ 5 by omega), heard_c, upd_ne (by omega)]
  exact upd_cm (by omega)
theorem deliver_c {ft : TXC} {e : DD} {h i : Nat} {v : Int32} (h5 : e (10 + 5 * h + 0) = 5) : deliverF ft (upd e (10 + 5 * h + 2) v) i = upd (deliverF ft e i) (10 + 5 * h + 2) v := by
  unfold deliverF
  rw [slack_c h5]
  split
  · rw [upd_ne (by omega)]; exact upd_cm (by omega)
  · rw [upd_ne (by omega), upd_ne (by omega)]; exact upd_cm (by omega)
theorem burn_c {y : DD} {h : Nat} {v : Int32} : ∀ n, itn burnF n (upd y (10 + 5 * h + 2) v) = upd (itn burnF n y) (10 + 5 * h + 2) v
  | 0 => rfl
  | n + 1 => by
    show burnF n (itn burnF n (upd y (10 + 5 * h + 2) v)) = upd (burnF n (itn burnF n y)) (10 + 5 * h + 2) v
    rw [burn_c n]
    generalize itn burnF n y = z
    have hb : burnsF (upd z (10 + 5 * h + 2) v) n = burnsF z n := burns_cg (upd_ne (by omega))
    have hd : bendsF (upd z (10 + 5 * h + 2) v) n = bendsF z n := bends_cg (upd_ne (by omega)) (upd_ne (by omega))
    unfold burnF
    rw [hb, hd, upd_ne (by omega), upd_ne (by omega), upd_cm (show 10 + 5 * h + 2 ≠ 10 + 5 * n + 3 by omega)]
    exact upd_cm (by omega)
theorem draw_c {y : DD} {h : Nat} {v : Int32} : drawF (upd y (10 + 5 * h + 2) v) = upd (drawF y) (10 + 5 * h + 2) v := by
  unfold drawF
  rw [upd_ne (by omega)]
  exact upd_cm (by omega)
theorem tread_c {y : DD} {h : Nat} {v : Int32} : ∃ v', treadF (upd y (10 + 5 * h + 2) v) = upd (treadF y) (10 + 5 * h + 2) v' := by
  unfold treadF
  simp only
  rw [draw_c, draw_c, draw_c, upd_ne (show 8 ≠ 10 + 5 * h + 2 by omega), upd_ne (show 4 ≠ 10 + 5 * h + 2 by omega), upd_ne (show 0 ≠ 10 + 5 * h + 2 by omega), upd_ne (show 8 ≠ 10 + 5 * h + 2 by omega), upd_ne (show 8 ≠ 10 + 5 * h + 2 by omega)]
  split
  · generalize (remF (dwF (drawF (drawF y) 8)) (drawF y 0)).toNatClampNeg = r
    by_cases q : r = h
    · subst q
      refine ⟨remF (dwF (drawF (drawF (drawF y)) 8)) 100, ?_⟩
      rw [upd_tw, upd_tw]
    · exact ⟨v, upd_cm (by omega)⟩
  · exact ⟨v, rfl⟩
theorem night_c {ft : TXC} {e : DD} {h : Nat} {v : Int32} (h5 : e (10 + 5 * h + 0) = 5) (h5r : roundF ft e (10 + 5 * h + 0) = 5) : ∃ v', nightF ft (upd e (10 + 5 * h + 2) v) = upd (nightF ft e) (10 + 5 * h + 2) v' := by
  unfold nightF
  have hn : nH (upd e (10 + 5 * h + 2) v) = nH e := by unfold nH; rw [upd_ne (by omega)]
  simp only
  rw [hn, round_c h5, upd_ne (show 1 ≠ 10 + 5 * h + 2 by omega), upd_ne (show 0 ≠ 10 + 5 * h + 2 by omega)]
  have hd : (if 0 < nH e then deliverF ft (upd (roundF ft e) (10 + 5 * h + 2) v) (remF (roundF ft e 1) (roundF ft e 0)).toNatClampNeg else upd (roundF ft e) (10 + 5 * h + 2) v) = upd (if 0 < nH e then deliverF ft (roundF ft e) (remF (roundF ft e 1) (roundF ft e 0)).toNatClampNeg else roundF ft e) (10 + 5 * h + 2) v := by
    split
    · exact deliver_c h5r
    · rfl
  rw [hd, burn_c]
  obtain ⟨v', hv⟩ := tread_c (y := itn burnF (nH e) (if 0 < nH e then deliverF ft (roundF ft e) (remF (roundF ft e 1) (roundF ft e 0)).toNatClampNeg else roundF ft e)) (h := h) (v := v)
  rw [hv]
  refine ⟨v', ?_⟩
  rw [upd_ne (by omega)]
  exact upd_cm (by omega)
theorem nights_c {ft : TXC} {e : DD} {h m nk : Nat} {v : Int32} (hI : InvH e) (hn : e 0 = nI m) (hm : m ≤ 10) (hnk : e 1 = nI nk) (h5 : e (10 + 5 * h + 0) = 5) : ∀ N, nk + N < 1000000 → ∃ v', nightsF ft N (upd e (10 + 5 * h + 2) v) = upd (nightsF ft N e) (10 + 5 * h + 2) v'
  | 0, _ => ⟨v, rfl⟩
  | N + 1, hN => by
    obtain ⟨v', hv⟩ := nights_c (ft := ft) (v := v) hI hn hm hnk h5 N (by omega)
    have hk : nightsF ft N e (10 + 5 * h + 0) = 5 := (nights_kind hI hn hm hnk N (by omega)).trans h5
    have h0 : nightsF ft N e 0 = nI m := by rw [nightsF_lo (by omega) (by omega) (by omega) (by omega) (by omega) (by omega)]; exact hn
    have hIk : InvH (nightsF ft N e) := inv_nights hI
    show ∃ v', nightF ft (nightsF ft N (upd e (10 + 5 * h + 2) v)) = upd (nightF ft (nightsF ft N e)) (10 + 5 * h + 2) v'
    rw [hv]
    exact night_c hk ((round_off hIk h0 hm (by omega)).trans hk)
theorem still_c {ft : TXC} {e : DD} {h : Nat} {v : Int32} (h5 : e (10 + 5 * h + 0) = 5) : stillB ft (upd e (10 + 5 * h + 2) v) = stillB ft e := by
  unfold stillB
  have hn : nH (upd e (10 + 5 * h + 2) v) = nH e := by unfold nH; rw [upd_ne (by omega)]
  rw [hn, upd_ne (show 2 ≠ 10 + 5 * h + 2 by omega)]
  congr 1
  funext i
  rw [slack_c h5]
/-! the sets that do -/
section CEM
variable {ft : TXC} {d : DD} {m ni n : Nat}
theorem still_iff {e : DD} {m : Nat} (hn : nH e = m) : stillB ft e = true ↔ ∀ h, h < m → ¬ e 2 ≤ slackF ft e h := by
  constructor
  · intro hs h hh hz
    exact stillB_f hn hh hz hs
  · exact stillB_t hn
def cemE (ft : TXC) (d : DD) (n s : Nat) : DD := nightsF ft n (fitSet (nI s) d)
def cemV (ft : TXC) (d : DD) (n s : Nat) : Prop := isCem ft d n (nI s) = true
theorem fit_rel {s t h : Nat} (hn : d 0 = nI m) (hm : m ≤ 10) (hs : s < 1024) (ht : t < 1024) (hh : h < m) (hp : d (10 + 5 * h + 0) = 5 ∨ (if s.testBit h = true then d (10 + 5 * h + 1) else d (10 + 5 * h + 2)) = (if t.testBit h = true then d (10 + 5 * h + 1) else d (10 + 5 * h + 2))) : RelH h (fitSet (nI s) d) (fitSet (nI t) d) := by
  have hnn := nH_of hn hm
  have o : ∀ (x : Int32) k, (∀ i, i < m → k ≠ 10 + 5 * i + 2) → fitSet x d k = d k := fun x k hk => by unfold fitSet; rw [hnn]; exact fit_oth m hk
  have pl : ∀ (s : Nat), s < 1024 → fitSet (nI s) d (10 + 5 * h + 2) = if s.testBit h = true then d (10 + 5 * h + 1) else d (10 + 5 * h + 2) := fun s hs => by
    unfold fitSet
    rw [hnn, fit_pl m hh]
    by_cases q : s.testBit h = true
    · rw [if_pos q, if_pos ((bit_test hs (by omega)).mpr q)]
    · rw [if_neg q, if_neg (fun z => q ((bit_test hs (by omega)).mp z))]
  refine ⟨fun k hk _ _ _ => ?_, ?_, ?_, ?_, ?_⟩
  · rw [o _ k (fun i hi => by omega), o _ k (fun i hi => by omega)]
  · rw [o _ _ (fun i hi => by omega), o _ _ (fun i hi => by omega)]
  · rw [o _ _ (fun i hi => by omega), o _ _ (fun i hi => by omega)]
  · rw [o _ _ (fun i hi => by omega), o _ _ (fun i hi => by omega)]
  · rcases hp with q | q
    · left; rw [o _ _ (fun i hi => by omega)]; exact q
    · right; rw [pl s hs, pl t ht]; exact q
theorem fit_0 {x : Int32} {k : Nat} (hk : k < 10) : fitSet x d k = d k := fitSet_lo hk
theorem cemE_0 {s : Nat} (hn : d 0 = nI m) : cemE ft d n s 0 = nI m := by unfold cemE; rw [nightsF_lo (by omega) (by omega) (by omega) (by omega) (by omega) (by omega), fit_0 (by omega)]; exact hn
theorem cemE_2 {s : Nat} : cemE ft d n s 2 = d 2 := by unfold cemE; rw [nightsF_lo (by omega) (by omega) (by omega) (by omega) (by omega) (by omega), fit_0 (by omega)]
theorem cemV_iff {s : Nat} (hn : d 0 = nI m) (hm : m ≤ 10) : cemV ft d n s ↔ ∀ h, h < m → ¬ d 2 ≤ slackF ft (cemE ft d n s) h := by
  have h1 := still_iff (ft := ft) (e := cemE ft d n s) (nH_of (cemE_0 hn) hm)
  rw [cemE_2] at h1
  exact h1
/-- loud without the tune, as in a set: not still in any set in which it is alike -/
theorem cem_loud {s t h : Nat} (hI : InvH d) (hn : d 0 = nI m) (hm : m ≤ 10) (hni : d 1 = nI ni) (hb : ni + n < 1000000) (hs : s < 1024) (ht : t < 1024) (hh : h < m) (h2 : ¬ d (10 + 5 * h + 0) = 2) (hp : d (10 + 5 * h + 0) = 5 ∨ (if s.testBit h = true then d (10 + 5 * h + 1) else d (10 + 5 * h + 2)) = (if t.testBit h = true then d (10 + 5 * h + 1) else d (10 + 5 * h + 2)))
    (hl : d 2 ≤ slackF ft (upd (cemE ft d n s) 5 0) h) : ¬ cemV ft d n t := by
  intro hv
  have hk0 : ∀ x : Int32, fitSet x d (10 + 5 * h + 0) = d (10 + 5 * h + 0) := fun x => by unfold fitSet; exact fit_oth _ (fun i hi => by omega)
  have hIs : InvH (fitSet (nI s) d) := inv_fit hI
  have hIt0 : InvH (fitSet (nI t) d) := inv_fit hI
  have hR := rel_nights (ft := ft) (h := h) hIs hIt0 ((fit_0 (by omega)).trans hn) hm ((fit_0 (by omega)).trans hni) hh (by rw [hk0]; exact h2) (fit_rel hn hm hs ht hh hp) n hb
  have hIt : InvH (cemE ft d n t) := inv_nights (inv_fit hI)
  have hkt : cemE ft d n t (10 + 5 * h + 0) = d (10 + 5 * h + 0) := (nights_kind (inv_fit hI) ((fit_0 (by omega)).trans hn) hm ((fit_0 (by omega)).trans hni) n hb).trans (hk0 _)
  have h1 := slackN_cg (ft := ft) hR
  have h3 := slackN_le (ft := ft) (h := h) hIt (by rw [hkt]; exact h2)
  have h4 : slackF ft (upd (cemE ft d n s) 5 0) h = slackF ft (upd (cemE ft d n t) 5 0) h := h1
  rw [h4] at hl
  exact (cemV_iff hn hm).mp hv h hh (Int32.le_trans hl h3)
/-- one that a plate made to fit doesn't change need not be in it -/
theorem cem_less {s h : Nat} (hI : InvH d) (hn : d 0 = nI m) (hm : m ≤ 10) (hni : d 1 = nI ni) (hb : ni + n < 1000000) (hs : s < 1024) (hh : h < m) (hsh : s.testBit h = true) (hu : d (10 + 5 * h + 2) = d (10 + 5 * h + 1) ∨ d (10 + 5 * h + 0) = 5) (hv : cemV ft d n s) : cemV ft d n (lessN s (2 ^ h)) := by
  have hnn := nH_of hn hm
  have hls : lessN s (2 ^ h) < 1024 := less_lt hs
  have hbit : ∀ i, (lessN s (2 ^ h)).testBit i = (s.testBit i && !decide (h = i)) := fun i => by rw [less_bit, Nat.testBit_two_pow]
  have hE : fitSet (nI s) d = upd (fitSet (nI (lessN s (2 ^ h))) d) (10 + 5 * h + 2) (d (10 + 5 * h + 1)) := by
    unfold fitSet
    rw [hnn]
    funext k
    by_cases q : ∃ i, i < m ∧ k = 10 + 5 * i + 2
    · obtain ⟨i, hi, rfl⟩ := q
      by_cases z : i = h
      · subst z
        rw [upd_eq, fit_pl m hi, if_pos ((bit_test hs (by omega)).mpr hsh)]
      · rw [upd_ne (by omega), fit_pl m hi, fit_pl m hi]
        have hz : decide (h = i) = false := decide_eq_false (fun y => z y.symm)
        have e1 : ((nI s >>> (nI i &&& 31) &&& 1) = 1) ↔ ((nI (lessN s (2 ^ h)) >>> (nI i &&& 31) &&& 1) = 1) := by
          rw [bit_test hs (by omega), bit_test hls (by omega), hbit, hz]; simp
        by_cases y : (nI s >>> (nI i &&& 31) &&& 1) = 1
        · rw [if_pos y, if_pos (e1.mp y)]
        · rw [if_neg y, if_neg (fun w => y (e1.mpr w))]
    · have hk : ∀ i, i < m → k ≠ 10 + 5 * i + 2 := fun i hi z => q ⟨i, hi, z⟩
      rw [upd_ne (hk h hh), fit_oth m hk, fit_oth m hk]
  have hv1 : stillB ft (nightsF ft n (fitSet (nI s) d)) = true := hv
  show stillB ft (nightsF ft n (fitSet (nI (lessN s (2 ^ h))) d)) = true
  rw [hE] at hv1
  have h0b : (lessN s (2 ^ h)).testBit h = false := by rw [hbit]; simp
  have hpl : fitSet (nI (lessN s (2 ^ h))) d (10 + 5 * h + 2) = d (10 + 5 * h + 2) := by
    unfold fitSet
    rw [hnn, fit_pl m hh, if_neg (fun z => by have := (bit_test hls (by omega)).mp z; rw [h0b] at this; cases this)]
  rcases hu with q | q
  · rw [← q, ← hpl, upd_self] at hv1
    exact hv1
  · have hIf : InvH (fitSet (nI (lessN s (2 ^ h))) d) := inv_fit hI
    have hk0 : fitSet (nI (lessN s (2 ^ h))) d (10 + 5 * h + 0) = 5 := by unfold fitSet; rw [fit_oth _ (fun i hi => by omega)]; exact q
    obtain ⟨v', hv'⟩ := nights_c (ft := ft) (v := d (10 + 5 * h + 1)) hIf ((fit_0 (by omega)).trans hn) hm ((fit_0 (by omega)).trans hni) hk0 n hb
    rw [hv', still_c ((nights_kind hIf ((fit_0 (by omega)).trans hn) hm ((fit_0 (by omega)).trans hni) n hb).trans hk0)] at hv1
    exact hv1
/-- the reference's choice among those below M -/
def cemMin (ft : TXC) (d : DD) (n M b : Nat) : Prop := b < M ∧ cemV ft d n b ∧ ∀ s, s < M → cemV ft d n s → cnt b 10 < cnt s 10 ∨ (cnt b 10 = cnt s 10 ∧ b ≤ s)
theorem cemB_spec : ∀ M, M ≤ 1024 → (cemB ft d n M = -1 ∧ ∀ s, s < M → ¬ cemV ft d n s) ∨ ∃ b, cemB ft d n M = nI b ∧ cemMin ft d n M b
  | 0, _ => Or.inl ⟨rfl, fun s hs => absurd hs (by omega)⟩
  | M + 1, hM => by
    have hc : ∀ s, s < 1024 → cnt s 10 ≤ 10 := fun s _ => (cnt_le (s := s) (m := s) Nat.lt_two_pow_self 10).1
    have hcl : ∀ a b, a < 1024 → b < 1024 → (onesF (nI a) < onesF (nI b) ↔ cnt a 10 < cnt b 10) := fun a b ha hb => by
      have h1 := hc a ha
      have h2 := hc b hb
      rw [ones_cnt ha, ones_cnt hb, nI_ltI (by omega) (by omega)]
    have hstep : cemB ft d n (M + 1) = if (cemB ft d n M < 0 ∨ onesF (nI M) < onesF (cemB ft d n M)) ∧ isCem ft d n (nI M) = true then nI M else cemB ft d n M := rfl
    rcases cemB_spec M (by omega) with ⟨e, h⟩ | ⟨b, e, hb, hv, hmin⟩
    · by_cases q : cemV ft d n M
      · right
        refine ⟨M, by rw [hstep, e, if_pos ⟨Or.inl (by decide), q⟩], by omega, q, fun s hs hvs => ?_⟩
        by_cases z : s = M
        · subst z; right; exact ⟨rfl, Nat.le_refl _⟩
        · exact absurd hvs (h s (by omega))
      · left
        refine ⟨by rw [hstep, e, if_neg (fun z => q z.2)], fun s hs hvs => ?_⟩
        by_cases z : s = M
        · subst z; exact q hvs
        · exact h s (by omega) hvs
    · right
      have hnn : ¬ nI b < 0 := nI_pos (by omega)
      by_cases q : cnt M 10 < cnt b 10 ∧ cemV ft d n M
      · refine ⟨M, by rw [hstep, e, if_pos ⟨Or.inr ((hcl M b (by omega) (by omega)).mpr q.1), q.2⟩], by omega, q.2, fun s hs hvs => ?_⟩
        by_cases z : s = M
        · subst z; right; exact ⟨rfl, Nat.le_refl _⟩
        · rcases hmin s (by omega) hvs with y | y <;> left <;> omega
      · have hneg : ¬ ((nI b < 0 ∨ onesF (nI M) < onesF (nI b)) ∧ isCem ft d n (nI M) = true) := fun z => by
          rcases z.1 with y | y
          · exact hnn y
          · exact q ⟨(hcl M b (by omega) (by omega)).mp y, z.2⟩
        refine ⟨b, by rw [hstep, e, if_neg hneg], by omega, hv, fun s hs hvs => ?_⟩
        by_cases z : s = M
        · subst z
          have : ¬ cnt s 10 < cnt b 10 := fun y => q ⟨y, hvs⟩
          by_cases y : cnt b 10 = cnt s 10
          · right; exact ⟨y, by omega⟩
          · left; omega
        · exact hmin s (by omega) hvs
end CEM
