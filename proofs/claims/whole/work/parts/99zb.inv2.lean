/-! the invariant of a terrace is kept by every public call -/
theorem inv_build {d : DD} {k st p c : Int32} (h : InvH d) (ho : okHouse k st p c) (h0 : ¬ d 0 = 10) : InvH (buildF d k st p c) := by
  obtain ⟨n, hn, e⟩ := inv_n h
  unfold buildF
  refine inv_upd (inv_house (inv_house (inv_house (inv_house (inv_house h (by omega) ho.1.1 ho.1.2) (by omega) ho.2.1.1 ho.2.1.2) (by omega) ho.2.2.1.1 ho.2.2.1.2) (by omega) ho.2.2.2.1 ho.2.2.2.2) (by omega) (by decide) (by decide)) (fun u hu => ?_)
  have hu2 : (10 : Int32) = u := Option.some.inj hu
  subst hu2
  have h10 : n ≠ 10 := fun z => h0 (by rw [e, z]; rfl)
  rw [e]
  rcases (show n = 0 ∨ n = 1 ∨ n = 2 ∨ n = 3 ∨ n = 4 ∨ n = 5 ∨ n = 6 ∨ n = 7 ∨ n = 8 ∨ n = 9 by omega) with z | z | z | z | z | z | z | z | z | z <;> subst z <;> decide
theorem inv_Dhouse {d : DD} {k st p c : Int32} (h : InvH d) : InvH (D_house d k st p c) := by
  unfold D_house
  split
  · next hh => exact inv_build h hh.1 hh.2
  · exact h
theorem inv_Dturns {d : DD} {x k : Int32} (h : InvH d) : InvH (D_turns d x k) := by
  unfold D_turns
  split
  · next hh => exact inv_house h (by omega) hh.2.1 hh.2.2
  · exact h
theorem inv_Dset {d : DD} {x w v : Int32} (h : InvH d) : InvH (D_set d x w v) := by
  unfold D_set
  split
  · next hh =>
    obtain ⟨_, hw, hv⟩ := hh
    obtain ⟨j, hj, ej⟩ := rng_nat (x := w) (m := 4) (by omega) (by grind) hw.2
    subst ej
    rw [nI_clamp (by omega)]
    rcases (show j = 0 ∨ j = 1 ∨ j = 2 ∨ j = 3 ∨ j = 4 by omega) with z | z | z | z | z <;> subst z
    · exact absurd hw.1 (by decide)
    · exact inv_house h (by omega) hv.1 hv.2
    · exact inv_house h (by omega) hv.1 hv.2
    · exact inv_house h (by omega) hv.1 hv.2
    · exact inv_house h (by omega) hv.1 hv.2
  · exact h
theorem inv_Drule {d : DD} {w v : Int32} (h : InvH d) : InvH (D_rule d w v) := by
  unfold D_rule
  split
  · next hh =>
    obtain ⟨hw, hv⟩ := hh
    obtain ⟨j, hj, ej⟩ := rng_nat (x := w) (m := 2) (by omega) hw.1 hw.2
    subst ej
    rw [nI_clamp (by omega)]
    refine inv_upd h (fun u hu => ?_)
    rcases (show j = 0 ∨ j = 1 ∨ j = 2 by omega) with z | z | z <;> subst z
    · have hu2 : (99 : Int32) = u := Option.some.inj hu
      rw [← hu2]; exact hv
    · have hu2 : (99 : Int32) = u := Option.some.inj hu
      rw [← hu2]; exact hv
    · have hu2 : (100 : Int32) = u := Option.some.inj hu
      rw [← hu2]; exact hv
  · exact h
theorem rem6_rng (z : Int32) : 0 ≤ remF (dwF z) 6 ∧ remF (dwF z) 6 ≤ 5 := by
  obtain ⟨j, hj, e⟩ := dw_rem z (n := 6) (by omega) (by omega)
  rw [show (6 : Int32) = nI 6 from rfl, e]
  exact ⟨nI_pos' (by omega), nI_le (b := 5) (by omega) (by omega)⟩
theorem inv_lot {d : DD} (h : InvH d) (h0 : ¬ d 0 = 10) : InvH (lotF d) :=
  inv_build (inv_draw (inv_draw (inv_draw (inv_draw h)))) ⟨rem6_rng _, rem100_rng _, rem100_rng _, rem100_rng _⟩ h0
theorem inv_lots {d : DD} {n : Nat} (h : InvH d) (hn : d 0 = nI n) : ∀ i, n + i ≤ 10 → InvH (lotsF i d)
  | 0, _ => h
  | i + 1, hi => by
    have ih := inv_lots h hn i (by omega)
    have e := lotsF_0 hn i
    exact inv_lot ih (fun z => by
      have e2 : lotsF i d 0 = 10 := z
      rw [e] at e2
      have := (nI_eq (show n + i < 2147483648 by omega) (show 10 < 2147483648 by decide)).mp e2
      omega)
theorem inv_Ddeal {d : DD} {k : Int32} (h : InvH d) : InvH (D_deal d k) := by
  unfold D_deal
  split
  · obtain ⟨n, hn, e⟩ := inv_n h
    refine inv_lots h e _ ?_
    unfold dealN nH
    rw [e, nI_clamp (by omega)]
    omega
  · exact h
theorem inv_Dload {ft : TXC} {d : DD} {x : Int32} (h : InvH d) : InvH (D_load ft d x) := by
  unfold D_load
  split
  · exact inv_deliver h
  · exact h
theorem inv_Dnights {ft : TXC} {d : DD} {x : Int32} (h : InvH d) : InvH (D_nights ft d x) := by
  unfold D_nights
  split
  · exact inv_nights h
  · exact h
theorem inv_pour {nu isn d : DD} {b m : Nat} (h : InvH d) : InvH (pourF nu isn b m d).1 :=
  itn_inv (fun q : DD × Int32 => InvH q.1) h (fun j y _ hy => by
    show InvH (upd y.1 (10 + 5 * j + 2) (pourV nu isn b j y.1))
    have hv : 0 ≤ pourV nu isn b j y.1 ∧ pourV nu isn b j y.1 ≤ 99 := by
      unfold pourV
      split
      · exact inv_at hy j 2 (by omega)
      · exact held_rng _ 99 (by decide)
    exact inv_house hy (by omega) hv.1 hv.2)
theorem inv_Dpour {d so sz nu isn : DD} {x : Int32} (h : InvH d) : InvH (D_pour d so sz nu isn x) := by
  unfold D_pour
  split
  · split
    · exact h
    · exact inv_pour h
  · exact h
