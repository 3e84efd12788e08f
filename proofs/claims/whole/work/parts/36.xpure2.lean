/-! a terrace's cells behind burning, treading -/
theorem tw_burn {d : DD} (i : Nat) : TwEq (burnF i d) (d 0) (d 9) (d 5) (d 6) (d 7) (d 1) (d 8) (col d 0) (upd (col d 1) i (held (d (10 + 5 * i + 1) + bendsF d i) 0 99)) (col d 2) (upd (col d 3) i (held (d (10 + 5 * i + 3) - burnsF d i) 0 99)) (col d 4) (rulF d) := by
  unfold burnF
  have h1 := tw_house (d := d) i 3 (held (d (10 + 5 * i + 3) - burnsF d i) 0 99) (by omega)
  have h2 := tw_house (d := upd d (10 + 5 * i + 3) (held (d (10 + 5 * i + 3) - burnsF d i) 0 99)) i 1 (held (d (10 + 5 * i + 1) + bendsF d i) 0 99) (by omega)
  obtain ⟨a0, a1, a2, a3, a4, a5, a6, a7, a8, a9, a10, a11, a12⟩ := h1
  obtain ⟨b0, b1, b2, b3, b4, b5, b6, b7, b8, b9, b10, b11, b12⟩ := h2
  exact ⟨b0.trans a0, b1.trans a1, b2.trans a2, b3.trans a3, b4.trans a4, b5.trans a5, b6.trans a6, b7.trans a7, b8.trans (congrArg (fun f => upd f i (held (d (10 + 5 * i + 1) + bendsF d i) 0 99)) a8), b9.trans a9, b10.trans a10, b11.trans a11, b12.trans a12⟩
theorem col_draw (d : DD) (w : Nat) : col (drawF d) w = col d w := col_lo d 8 w _ (by omega)
theorem rul_draw (d : DD) : rulF (drawF d) = rulF d := rul_ne d 8 _ (by omega)
theorem tw_tr {d : DD} (j : Nat) (v : Int32) : TwEq (upd (drawF (drawF (drawF d))) (10 + 5 * j + 2) v) (drawF (drawF (drawF d)) 0) (drawF (drawF (drawF d)) 9) (drawF (drawF (drawF d)) 5) (drawF (drawF (drawF d)) 6) (drawF (drawF (drawF d)) 7) (drawF (drawF (drawF d)) 1) (drawF (drawF (drawF d)) 8) (col d 0) (col d 1) (upd (col d 2) j v) (col d 3) (col d 4) (rulF d) := by
  have c : ∀ w, col (drawF (drawF (drawF d))) w = col d w := fun w => by rw [col_draw, col_draw, col_draw]
  have r : rulF (drawF (drawF (drawF d))) = rulF d := by rw [rul_draw, rul_draw, rul_draw]
  obtain ⟨a0, a1, a2, a3, a4, a5, a6, a7, a8, a9, a10, a11, a12⟩ := tw_house (d := drawF (drawF (drawF d))) j 2 v (by omega)
  exact ⟨a0, a1, a2, a3, a4, a5, a6, a7.trans (c 0), a8.trans (c 1), a9.trans (congrArg (fun f => upd f j v) (c 2)), a10.trans (c 3), a11.trans (c 4), a12.trans r⟩
theorem loud_ones {ft : TXC} {d : DD} {n : Nat} (hn : n ≤ 10) : bitF (loudF ft d n) = onesF (loudF ft d n) ∧ 0 ≤ onesF (loudF ft d n) ∧ onesF (loudF ft d n) ≤ 10 := by
  obtain ⟨t, ht, e⟩ := loud_lt (ft := ft) (d := d) n hn
  have hp := pow_le10 hn
  obtain ⟨k, hk, e2⟩ := onesF_le t (by omega)
  rw [e]
  refine ⟨bitF_ones t (by omega), ?_, ?_⟩
  · rw [e2]; exact nI_pos' (by omega)
  · rw [e2]; exact nI_le (b := 10) hk (by omega)
theorem add_nn {x y a b : Int32} (h0 : 0 ≤ x) (h1 : x ≤ a) (h2 : 0 ≤ y) (h3 : y ≤ b) (ha : a ≤ 100000) (hb : b ≤ 100000) : 0 ≤ x + y := by grind
theorem sub_le {x y : Int32} (h0 : 0 ≤ x) (h1 : x ≤ 99) (h2 : 0 ≤ y) (h3 : y ≤ 10) : x - y ≤ 99 := by grind
