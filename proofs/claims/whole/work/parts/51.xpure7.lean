/-! noise never grows less; what one's coal can be at most -/
theorem night_6 {ft : TXC} {d : DD} {n : Nat} (hI : InvH d) (hn : d 0 = nI n) (hn10 : n ≤ 10) : nightF ft d 6 = held (d 6 + onesF (loudF ft d n)) 0 99999 := by
  have hr := (tw_round (ft := ft) hI hn hn10).2.2.2.1
  show upd _ 1 _ 6 = _
  rw [upd_ne (by omega), treadF_lo (by omega) (by omega), burnF_lo (by omega)]
  split
  · rw [deliverF_lo (by omega) (by omega)]; exact hr
  · exact hr
theorem noise_1 {ft : TXC} {d : DD} (hI : InvH d) : d 6 ≤ nightF ft d 6 := by
  obtain ⟨n, hn10, hn⟩ := inv_n hI
  rw [night_6 hI hn hn10]
  have h1 := loud_ones (ft := ft) (d := d) hn10
  have h2 := h1.2.1
  have h3 := h1.2.2
  have b6 := hI 6 99999 rfl
  unfold held
  grind
theorem noise_mono {ft : TXC} {d : DD} (hI : InvH d) (k : Nat) : ∀ m, nightsF ft k d 6 ≤ nightsF ft (k + m) d 6
  | 0 => Int32.le_refl _
  | m + 1 => Int32.le_trans (noise_mono hI k m) (noise_1 (inv_nights hI))
theorem ear_hi {ft : TXC} {d : DD} {n k m : Nat} {v : Int32} (hI : InvH (upd d 2 (nI k))) (hm : m ≤ n) (h : ¬ nightsF ft m (upd d 2 (nI k)) 6 ≤ v) : ¬ earC ft d n k ≤ v := by
  intro z
  have h1 := noise_mono (ft := ft) hI m (n - m)
  rw [show m + (n - m) = n by omega] at h1
  exact h (Int32.le_trans h1 z)
theorem earB_hit {ft : TXC} {d : DD} {n k : Nat} {v : Int32} (hk : k ≤ 99) (h : earC ft d n k ≤ v) (hno : ∀ i, i < k → ¬ earC ft d n i ≤ v) : ∀ m, 99 - k < m → m ≤ 100 → earB ft d n v m = nI k
  | 0, h1, _ => absurd h1 (by omega)
  | m + 1, h1, h2 => by
    show (if earC ft d n (99 - m) ≤ v then nI (99 - m) else earB ft d n v m) = _
    by_cases q : m = 99 - k
    · rw [q, show 99 - (99 - k) = k by omega, if_pos h]
    · rw [if_neg (hno _ (by omega))]; exact earB_hit hk h hno m (by omega) (by omega)
theorem earB_none {ft : TXC} {d : DD} {n : Nat} {v : Int32} (hno : ∀ i, i < 100 → ¬ earC ft d n i ≤ v) : ∀ m, earB ft d n v m = -1000000005
  | 0 => rfl
  | m + 1 => by
    show (if earC ft d n (99 - m) ≤ v then nI (99 - m) else earB ft d n v m) = _
    rw [if_neg (hno _ (by omega))]; exact earB_none hno m
/-! one house's numbers in a night -/
theorem burn1_ne {y : DD} {i k : Nat} (h3 : k ≠ 10 + 5 * i + 3) (h1 : k ≠ 10 + 5 * i + 1) : burnF i y k = y k := by
  unfold burnF; rw [upd_ne h1, upd_ne h3]
theorem burn_off {e : DD} {j w : Nat} (hw : w < 5) : ∀ m, m ≤ j → itn burnF m e (10 + 5 * j + w) = e (10 + 5 * j + w)
  | 0, _ => rfl
  | m + 1, h => (burn1_ne (by omega) (by omega)).trans (burn_off hw m (by omega))
theorem burn_oth {e : DD} {j w : Nat} (hw : w < 5) (h1 : w ≠ 1) (h3 : w ≠ 3) : ∀ m, itn burnF m e (10 + 5 * j + w) = e (10 + 5 * j + w)
  | 0 => rfl
  | m + 1 => (burn1_ne (by omega) (by omega)).trans (burn_oth hw h1 h3 m)
theorem burns_cg {y e : DD} {j : Nat} (h : y (10 + 5 * j + 0) = e (10 + 5 * j + 0)) : burnsF y j = burnsF e j := by unfold burnsF; rw [h]
theorem bends_cg {y e : DD} {j : Nat} (h : y (10 + 5 * j + 0) = e (10 + 5 * j + 0)) (h3 : y (10 + 5 * j + 3) = e (10 + 5 * j + 3)) : bendsF y j = bendsF e j := by unfold bendsF; rw [h, h3]
theorem burn_coal {e : DD} {j : Nat} : ∀ m, j < m → itn burnF m e (10 + 5 * j + 3) = held (e (10 + 5 * j + 3) - burnsF e j) 0 99
  | 0, h => absurd h (by omega)
  | m + 1, h => by
    show burnF m (itn burnF m e) (10 + 5 * j + 3) = _
    by_cases q : j = m
    · subst q
      have a3 := burn_off (e := e) (j := j) (w := 3) (by omega) j (Nat.le_refl _)
      have a0 := burn_off (e := e) (j := j) (w := 0) (by omega) j (Nat.le_refl _)
      generalize itn burnF j e = y at a3 a0 ⊢
      unfold burnF
      rw [upd_ne (by omega), upd_eq, a3, burns_cg a0]
    · rw [burn1_ne (by omega) (by omega)]; exact burn_coal m (by omega)
theorem burn_str {e : DD} {j : Nat} : ∀ m, j < m → itn burnF m e (10 + 5 * j + 1) = held (e (10 + 5 * j + 1) + bendsF e j) 0 99
  | 0, h => absurd h (by omega)
  | m + 1, h => by
    show burnF m (itn burnF m e) (10 + 5 * j + 1) = _
    by_cases q : j = m
    · subst q
      have a3 := burn_off (e := e) (j := j) (w := 3) (by omega) j (Nat.le_refl _)
      have a1 := burn_off (e := e) (j := j) (w := 1) (by omega) j (Nat.le_refl _)
      have a0 := burn_off (e := e) (j := j) (w := 0) (by omega) j (Nat.le_refl _)
      generalize itn burnF j e = y at a3 a1 a0 ⊢
      unfold burnF
      rw [upd_eq, a1, bends_cg a0 a3]
    · rw [burn1_ne (by omega) (by omega)]; exact burn_str m (by omega)
theorem tread_off {y : DD} {j w : Nat} (hw : w < 5) (h2 : w ≠ 2) : treadF y (10 + 5 * j + w) = y (10 + 5 * j + w) := by
  unfold treadF
  simp only
  split
  · rw [upd_ne (by omega), drawF_lo (by omega), drawF_lo (by omega), drawF_lo (by omega)]
  · rw [drawF_lo (by omega)]
theorem deliver_off {ft : TXC} {y : DD} {i j w : Nat} (hw : w < 5) (h : w ≠ 3 ∨ i ≠ j) : deliverF ft y i (10 + 5 * j + w) = y (10 + 5 * j + w) := by
  unfold deliverF
  split
  · rw [upd_ne (by omega)]
  · rw [upd_ne (by omega)]
theorem round_off {ft : TXC} {d : DD} {n j w : Nat} (hI : InvH d) (hn : d 0 = nI n) (hn10 : n ≤ 10) (hw : w < 4) : roundF ft d (10 + 5 * j + w) = d (10 + 5 * j + w) := by
  obtain ⟨-, -, -, -, -, -, -, a, b, c, e, -⟩ := tw_round (ft := ft) hI hn hn10
  rcases (show w = 0 ∨ w = 1 ∨ w = 2 ∨ w = 3 by omega) with rfl | rfl | rfl | rfl
  · exact congrFun a j
  · exact congrFun b j
  · exact congrFun c j
  · exact congrFun e j
/-- what is there ahead of burning -/
def delN (ft : TXC) (d : DD) (n ni : Nat) : DD := if 0 < n then deliverF ft (roundF ft d) (ni % n) else roundF ft d
theorem night_del {ft : TXC} {d : DD} {n ni : Nat} (hn : d 0 = nI n) (hn10 : n ≤ 10) (hni : d 1 = nI ni) (hni2 : ni < 1000000) : nightF ft d = upd (treadF (itn burnF n (delN ft d n ni))) 1 (treadF (itn burnF n (delN ft d n ni)) 1 + 1) := nightF_eq hn hn10 hni hni2
theorem del_off {ft : TXC} {d : DD} {n ni j w : Nat} (hI : InvH d) (hn : d 0 = nI n) (hn10 : n ≤ 10) (hw : w < 4) (h : w ≠ 3 ∨ ni % n ≠ j) : delN ft d n ni (10 + 5 * j + w) = d (10 + 5 * j + w) := by
  unfold delN
  split
  · rw [deliver_off (by omega) h]; exact round_off hI hn hn10 hw
  · exact round_off hI hn hn10 hw
theorem night_kind {ft : TXC} {d : DD} {n ni j : Nat} (hI : InvH d) (hn : d 0 = nI n) (hn10 : n ≤ 10) (hni : d 1 = nI ni) (hni2 : ni < 1000000) : nightF ft d (10 + 5 * j + 0) = d (10 + 5 * j + 0) := by
  rw [night_del hn hn10 hni hni2, upd_ne (by omega), tread_off (by omega) (by omega), burn_oth (by omega) (by omega) (by omega)]
  exact del_off hI hn hn10 (by omega) (by omega)
theorem night_coal {ft : TXC} {d : DD} {n ni j : Nat} (hI : InvH d) (hn : d 0 = nI n) (hn10 : n ≤ 10) (hni : d 1 = nI ni) (hni2 : ni < 1000000) (hj : j < n) : nightF ft d (10 + 5 * j + 3) = held (delN ft d n ni (10 + 5 * j + 3) - burnsF d j) 0 99 := by
  rw [night_del hn hn10 hni hni2, upd_ne (by omega), tread_off (by omega) (by omega), burn_coal n hj, burns_cg (del_off hI hn hn10 (by omega) (by omega))]
theorem held_nsub {a b : Nat} (ha : a ≤ 99) (hb : b ≤ 99) : held (nI a - nI b) 0 99 = nI (a - b) := by
  unfold held
  by_cases h : b ≤ a
  · rw [pk_sub h, if_neg (nI_pos (by omega)), if_neg (show ¬ (99 : Int32) < nI (a - b) from nI_nlt (a := 99) (by omega) (by omega))]
  · rw [if_pos (pk_sneg (by omega) (by omega)), show a - b = 0 by omega]; rfl
theorem held_nadd {a b : Nat} (ha : a ≤ 99) (hb : b ≤ 99) : held (nI a + nI b) 0 99 = nI (min (a + b) 99) := by
  unfold held
  rw [nI_add, if_neg (nI_pos (by omega))]
  by_cases h : a + b ≤ 99
  · rw [if_neg (show ¬ (99 : Int32) < nI (a + b) from nI_nlt (a := 99) h (by omega)), Nat.min_eq_left h]
  · rw [if_pos (show (99 : Int32) < nI (a + b) from nI_lt (a := 99) (by omega) (by omega)), Nat.min_eq_right (by omega)]; rfl
theorem rng3 {c M : Int32} (h0 : 0 ≤ c) (h1 : c ≤ M) (h2 : M ≤ 99) : ∃ a m : Nat, a ≤ m ∧ m ≤ 99 ∧ c = nI a ∧ M = nI m := by
  obtain ⟨m, hm, rfl⟩ := rng_nat (m := 99) (by omega) (Int32.le_trans h0 h1) h2
  obtain ⟨a, ha, rfl⟩ := rng_nat (by omega) h0 h1
  exact ⟨a, m, ha, hm, rfl, rfl⟩
theorem held_le {c l M : Int32} (h0 : 0 ≤ c) (h1 : c ≤ M) (h2 : M ≤ 99) (h3 : 0 ≤ l) (h4 : l ≤ 99) : c ≤ held (M + l) 0 99 := by
  obtain ⟨a, m, ham, hm, rfl, rfl⟩ := rng3 h0 h1 h2
  obtain ⟨x, hx, rfl⟩ := rng_nat (m := 99) (by omega) h3 h4
  rw [held_nadd hm hx]
  exact nI_le (by omega) (by omega)
theorem held_ml {c l M : Int32} (h0 : 0 ≤ c) (h1 : c ≤ M) (h2 : M ≤ 99) (h3 : 0 ≤ l) (h4 : l ≤ 99) : held (c + l) 0 99 ≤ held (M + l) 0 99 := by
  obtain ⟨a, m, ham, hm, rfl, rfl⟩ := rng3 h0 h1 h2
  obtain ⟨x, hx, rfl⟩ := rng_nat (m := 99) (by omega) h3 h4
  rw [held_nadd hm hx, held_nadd (by omega) hx]
  exact nI_le (by omega) (by omega)
theorem held_mb {c b M : Int32} (h0 : 0 ≤ c) (h1 : c ≤ M) (h2 : M ≤ 99) (h3 : 0 ≤ b) (h4 : b ≤ 10) : held (c - b) 0 99 ≤ held (M - b) 0 99 := by
  obtain ⟨a, m, ham, hm, rfl, rfl⟩ := rng3 h0 h1 h2
  obtain ⟨x, hx, rfl⟩ := rng_nat (m := 10) (by omega) h3 h4
  rw [held_nsub hm (by omega), held_nsub (by omega) (by omega)]
  exact nI_le (by omega) (by omega)
theorem del_le {ft : TXC} {d : DD} {n ni j : Nat} {M : Int32} (hI : InvH d) (hn : d 0 = nI n) (hn10 : n ≤ 10) (hj : j < n) (hM : M ≤ 99) (hc : d (10 + 5 * j + 3) ≤ M) : 0 ≤ delN ft d n ni (10 + 5 * j + 3) ∧ delN ft d n ni (10 + 5 * j + 3) ≤ (if ni % n = j then held (M + d 3) 0 99 else M) := by
  have b3 : 0 ≤ d (10 + 5 * j + 3) ∧ _ := inv_at hI j 3 (by omega)
  have bl := hI 3 99 rfl
  by_cases q : ni % n = j
  · rw [if_pos q]
    unfold delN
    rw [if_pos (by omega), q]
    have r3 : roundF ft d (10 + 5 * j + 3) = d (10 + 5 * j + 3) := round_off hI hn hn10 (by omega)
    have rl : roundF ft d 3 = d 3 := roundF_lo (by omega) (by omega) (by omega)
    unfold deliverF
    split
    · rw [upd_ne (by omega), r3]
      exact ⟨b3.1, held_le b3.1 hc hM bl.1 bl.2⟩
    · rw [upd_eq, r3, rl]
      exact ⟨(held_rng _ 99 (by decide)).1, held_ml b3.1 hc hM bl.1 bl.2⟩
  · rw [if_neg q, del_off hI hn hn10 (by omega) (Or.inr q)]
    exact ⟨b3.1, hc⟩
theorem nights_kind {ft : TXC} {d : DD} {n ni j : Nat} (hI : InvH d) (hn : d 0 = nI n) (hn10 : n ≤ 10) (hni : d 1 = nI ni) : ∀ N, ni + N < 1000000 → nightsF ft N d (10 + 5 * j + 0) = d (10 + 5 * j + 0)
  | 0, _ => rfl
  | N + 1, h => by
    show nightF ft (nightsF ft N d) (10 + 5 * j + 0) = _
    rw [night_kind (inv_nights hI) (n := n) (by rw [nightsF_lo (by omega) (by omega) (by omega) (by omega) (by omega) (by omega)]; exact hn) hn10 (nightsF_1 hni N) (by omega)]
    exact nights_kind hI hn hn10 hni N (by omega)
theorem cast_le {ft : TXC} {d : DD} {n ni j v : Nat} (hI : InvH d) (hn : d 0 = nI n) (hn10 : n ≤ 10) (hni : d 1 = nI ni) (hj : j < n) (hv : v ≤ 99) : ∀ N, ni + N < 1000000 → castC ft d j N v ≤ mcF d j ni n N := by
  have hI2 : InvH (upd d (10 + 5 * j + 2) (nI v)) := inv_house hI (by omega) (nI_pos' (by omega)) (nI_le (b := 99) (by omega) (by omega))
  have hn2 : upd d (10 + 5 * j + 2) (nI v) 0 = nI n := (upd_ne (by omega)).trans hn
  have hni2 : upd d (10 + 5 * j + 2) (nI v) 1 = nI ni := (upd_ne (by omega)).trans hni
  have hk0 : upd d (10 + 5 * j + 2) (nI v) (10 + 5 * j + 0) = d (10 + 5 * j + 0) := upd_ne (by omega)
  have hl3 : upd d (10 + 5 * j + 2) (nI v) 3 = d 3 := upd_ne (by omega)
  have hc3 : upd d (10 + 5 * j + 2) (nI v) (10 + 5 * j + 3) = d (10 + 5 * j + 3) := upd_ne (by omega)
  intro N
  unfold castC
  generalize upd d (10 + 5 * j + 2) (nI v) = e at *
  induction N with
  | zero => intro _; show e (10 + 5 * j + 3) ≤ d (10 + 5 * j + 3); rw [hc3]; exact Int32.le_refl _
  | succ N ih =>
    intro hN
    have ih := ih (by omega)
    show nightF ft (nightsF ft N e) (10 + 5 * j + 3) ≤ mcS d j ni n N (mcF d j ni n N)
    have hIk : InvH (nightsF ft N e) := inv_nights hI2
    have hnk : nightsF ft N e 0 = nI n := by rw [nightsF_lo (by omega) (by omega) (by omega) (by omega) (by omega) (by omega)]; exact hn2
    have h3k : nightsF ft N e 3 = d 3 := by rw [nightsF_lo (by omega) (by omega) (by omega) (by omega) (by omega) (by omega)]; exact hl3
    have h1k := nightsF_1 (ft := ft) hni2 N
    have hkk : nightsF ft N e (10 + 5 * j + 0) = d (10 + 5 * j + 0) := (nights_kind hI2 hn2 hn10 hni2 N (by omega)).trans hk0
    have hm := mc_rng (j := j) (ni := ni) (n := n) hI N
    rw [night_coal hIk hnk hn10 h1k (by omega) hj, burns_cg hkk]
    have hd := del_le (ft := ft) (ni := ni + N) hIk hnk hn10 hj hm.2 ih
    rw [h3k] at hd
    have bb := burns_rng (d := d) j
    unfold mcS
    refine held_mb hd.1 hd.2 ?_ bb.1 bb.2
    split
    · exact (held_rng _ 99 (by decide)).2
    · exact hm.2
theorem castB_stop {ft : TXC} {d : DD} {j n k : Nat} {B : Int32} (h : ∀ v, v ≤ 99 → castC ft d j n v ≤ B) (hk : B ≤ (castB ft d j n k).2) : ∀ m, k ≤ m → m ≤ 100 → castB ft d j n m = castB ft d j n k
  | 0, h1, _ => by rw [show k = 0 by omega]
  | m + 1, h1, h2 => by
    by_cases q : k = m + 1
    · rw [q]
    · have ih := castB_stop h hk m (by omega) (by omega)
      show (if (castB ft d j n m).2 < castC ft d j n m then nI m else (castB ft d j n m).1, if (castB ft d j n m).2 < castC ft d j n m then castC ft d j n m else (castB ft d j n m).2) = _
      rw [ih]
      have hn : ¬ (castB ft d j n k).2 < castC ft d j n m := Int32.not_lt.mpr (Int32.le_trans (h m (by omega)) hk)
      rw [if_neg hn, if_neg hn]
theorem upd_self {f : DD} {k : Nat} : upd f k (f k) = f := by
  funext j
  by_cases h : j = k
  · rw [h, upd_eq]
  · rw [upd_ne h]
theorem inv_fit {x : Int32} {d : DD} {n : Nat} (h : InvH d) : InvH (itn (fitOne x) n d) :=
  itn_inv InvH h (fun j y _ hy => by
    refine inv_house hy (by omega) ?_ ?_
    · split
      · exact (inv_at hy j 1 (by omega)).1
      · exact (inv_at hy j 2 (by omega)).1
    · split
      · exact (inv_at hy j 1 (by omega)).2
      · exact (inv_at hy j 2 (by omega)).2)
