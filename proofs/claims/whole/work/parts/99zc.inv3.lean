/-! what is so of a terrace at all times: its numbers within their bounds, its nights, its texts -/
def DOK (d : DD) : Prop := InvH d ∧ (∃ ni, ni ≤ 9999 ∧ d 1 = nI ni) ∧ (∃ nt, nt ≤ 14 ∧ d 9 = nI nt)
theorem DOK.of {d d' : DD} (h : DOK d) (hI : InvH d') (h1 : d' 1 = d 1) (h9 : d' 9 = d 9) : DOK d' := ⟨hI, by rw [h1]; exact h.2.1, by rw [h9]; exact h.2.2⟩
theorem build_lo {d : DD} {k st p c : Int32} {j : Nat} (hj : j < 10) (h0 : j ≠ 0) : buildF d k st p c j = d j := by
  unfold buildF
  rw [upd_ne (by omega), upd_ne (by omega), upd_ne (by omega), upd_ne (by omega), upd_ne (by omega), upd_ne (by omega)]
theorem ok_Dhouse {d : DD} {k st p c : Int32} (h : DOK d) : DOK (D_house d k st p c) := by
  refine h.of (inv_Dhouse h.1) ?_ ?_ <;> unfold D_house <;> split
  · exact build_lo (by omega) (by omega)
  · rfl
  · exact build_lo (by omega) (by omega)
  · rfl
theorem ok_Dturns {d : DD} {x k : Int32} (h : DOK d) : DOK (D_turns d x k) := by
  refine h.of (inv_Dturns h.1) ?_ ?_ <;> unfold D_turns <;> split
  · exact upd_ne (by omega)
  · rfl
  · exact upd_ne (by omega)
  · rfl
theorem ok_Dset {d : DD} {x w v : Int32} (h : DOK d) : DOK (D_set d x w v) := by
  refine h.of (inv_Dset h.1) ?_ ?_ <;> unfold D_set <;> split
  · exact upd_ne (by omega)
  · rfl
  · exact upd_ne (by omega)
  · rfl
theorem ok_Drule {d : DD} {w v : Int32} (h : DOK d) : DOK (D_rule d w v) := by
  have hw2 : okRule w v → w.toNatClampNeg ≤ 2 := fun z => by
    obtain ⟨j, hj, ej⟩ := rng_nat (x := w) (m := 2) (by omega) z.1.1 z.1.2
    subst ej
    rw [nI_clamp (by omega)]
    exact hj
  refine h.of (inv_Drule h.1) ?_ ?_ <;> unfold D_rule <;> split
  · exact upd_ne (by omega)
  · rfl
  · next z => exact upd_ne (by have := hw2 z; omega)
  · rfl
theorem lots_lo {d : DD} {k : Nat} (hk : k < 10) (h0 : k ≠ 0) (h8 : k ≠ 8) (i : Nat) : lotsF i d k = d k :=
  itn_inv (fun y : DD => y k = d k) rfl (fun j y _ hy => (lotF_lo hk h0 h8).trans hy)
theorem ok_Ddeal {d : DD} {x : Int32} (h : DOK d) : DOK (D_deal d x) := by
  refine h.of (inv_Ddeal h.1) ?_ ?_ <;> unfold D_deal <;> split
  · exact lots_lo (by omega) (by omega) (by omega) _
  · rfl
  · exact lots_lo (by omega) (by omega) (by omega) _
  · rfl
theorem ok_Dseed {d : DD} {v : Int32} (h : DOK d) : DOK (upd d 8 v) :=
  h.of (inv_upd h.1 (fun u hu => by cases hu)) (upd_ne (by omega)) (upd_ne (by omega))
theorem ok_Dround {ft : TXC} {d : DD} (h : DOK d) : DOK (roundF ft d) :=
  h.of (inv_round h.1) (roundF_lo (by omega) (by omega) (by omega)) (roundF_lo (by omega) (by omega) (by omega))
theorem ok_Dload {ft : TXC} {d : DD} {x : Int32} (h : DOK d) : DOK (D_load ft d x) := by
  refine h.of (inv_Dload h.1) ?_ ?_ <;> unfold D_load <;> split
  · exact deliverF_lo (by omega) (by omega)
  · rfl
  · exact deliverF_lo (by omega) (by omega)
  · rfl
theorem ok_Dpour {d so sz nu isn : DD} {x : Int32} (h : DOK d) : DOK (D_pour d so sz nu isn x) := by
  refine h.of (inv_Dpour h.1) ?_ ?_ <;> unfold D_pour <;> split
  · split
    · rfl
    · exact pourF_lo (by omega)
  · rfl
  · split
    · rfl
    · exact pourF_lo (by omega)
  · rfl
theorem nightN_hi {d : DD} {ni : Nat} {n : Int32} (h : d 1 = nI ni) (h9 : ni ≤ 9999) (h0 : 0 ≤ n) : ni + nightN d n ≤ 9999 := by
  obtain ⟨j, hj, ej⟩ := nI_of (x := n) (by grind)
  subst ej
  have e1 : (9999 : Int32) - d 1 = nI (9999 - ni) := by rw [h]; exact pk_sub (a := 9999) (b := ni) (by omega)
  have hh := held_rng (nI j) (nI (9999 - ni)) (nI_pos' (by omega))
  obtain ⟨q, hq, eq⟩ := rng_nat (m := 9999 - ni) (by omega) hh.1 hh.2
  unfold nightN
  rw [e1, eq, nI_clamp (by omega)]
  omega
theorem ok_Dnights {ft : TXC} {d : DD} {x : Int32} (h : DOK d) : DOK (D_nights ft d x) := by
  obtain ⟨ni, h9, e⟩ := h.2.1
  refine ⟨inv_Dnights h.1, ?_, ?_⟩
  · unfold D_nights
    split
    · next hx => exact ⟨ni + nightN d x, nightN_hi e h9 (by grind), nightsF_1 e _⟩
    · exact h.2.1
  · have e9 : D_nights ft d x 9 = d 9 := by
      unfold D_nights
      split
      · exact nightsF_lo (by omega) (by omega) (by omega) (by omega) (by omega) (by omega)
      · rfl
    rw [e9]
    exact h.2.2
theorem ok_Dtext {d tf : DD} {tp : Nat} (h : DOK d) : DOK (if okTx d tf tp then upd d 9 (d 9 + 1) else d) := by
  split
  · next hh =>
    obtain ⟨nt, h14, e⟩ := h.2.2
    refine ⟨inv_upd h.1 (fun u hu => by cases hu), by rw [upd_ne (by omega)]; exact h.2.1, ⟨nt + 1, ?_, ?_⟩⟩
    · rcases Nat.lt_or_ge nt 14 with z | z
      · omega
      · exact absurd (by rw [e, show nt = 14 by omega]; rfl) hh.2
    · rw [upd_eq, e]
      exact (nI_succ nt).symm
  · exact h
