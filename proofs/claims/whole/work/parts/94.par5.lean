/-! a piece, and the whole text -/
section PAR5
variable {tf : DD} {tp : Nat} {ky : Int32}
theorem go_true {x : Prop} [Decidable x] {q : PS} (hb : q.2.2.2 = false) (h : x) : goF x q = (q.1 + 1, q.2.1, q.2.2.1, false) := if_neg (fun z => by rcases z with y | y; exact absurd (hb.symm.trans y) (by decide); exact y h)
theorem go_false {x : Prop} [Decidable x] {q : PS} (h : ¬ x) : goF x q = (q.1, q.2.1, q.2.2.1, true) := if_pos (Or.inr h)
theorem piece_bad {f o nn : Nat} {q : PS} (h : q.2.2.2 = true) : pieceF tf tp ky f o nn q = q := by
  cases f with
  | zero => rfl
  | succ f => exact if_pos h
theorem lay_true {v : Int32} {q : PS} (h : q.2.2.2 = true) : layF v q = q := if_pos h
theorem stp_pc {j : Nat} {s : MS} (h3 : tkA tf tp j = 3) (hm : s.1 = false) : stpM tf tp ky j s = pceM tf ky (bgA tf tp j) (atA tf tp j) s := by
  unfold stpM
  rw [if_neg (fun z => by rcases z with y | y <;> rw [h3] at y <;> exact absurd y (by decide)), if_neg (by rw [hm]; decide)]
def PcL (tf : DD) (tp : Nat) (ky : Int32) (f : Nat) : Prop := ∀ (o nn : Nat) (q : PS) (k : Nat) (O S : List Int32), q.2.2.2 = false → NN f o nn → S.headD 0 ≠ 33 → k ≤ nn →
  ((pieceF tf tp ky f o nn q).2.2.2 = false → ∃ c : List Int32, (pieceF tf tp ky f o nn q).2.1 = q.2.1 ++ c ∧ Rn tf tp ky q.1 (false, O, List.replicate k 33 ++ S, o, nn, q.2.2.1) (pieceF tf tp ky f o nn q).1 (true, O ++ (c.map (xm ky) ++ List.replicate k 20033), S, o, nn - k, (pieceF tf tp ky f o nn q).2.2.1) ∧ CG ky c) ∧
  ((pieceF tf tp ky f o nn q).2.2.2 = true → Fl tf tp ky q.1 (false, O, List.replicate k 33 ++ S, o, nn, q.2.2.1) (pieceF tf tp ky f o nn q).1)
theorem PcL.lv {f o nn : Nat} (h : PcL tf tp ky f) (hn : NN f o nn) : LvF tf tp ky o nn 6 (pieceF tf tp ky f o nn) := by
  intro q O S hb hS
  have h1 := h o nn q 0 O S hb hn hS.2 (by omega)
  refine ⟨fun z => ?_, h1.2⟩
  obtain ⟨c, a1, a2, a3⟩ := h1.1 z
  refine ⟨c, [], O ++ c.map (xm ky), a1, ?_, by show _ ++ [] = _; rw [List.append_nil], fun a ha => (by cases ha), fun y => ?_, a3⟩
  · have e : O ++ (c.map (xm ky) ++ List.replicate 0 20033) = O ++ c.map (xm ky) := by show O ++ (c.map (xm ky) ++ []) = _; rw [List.append_nil]
    rw [e] at a2
    exact a2
  · exfalso
    unfold opR at y
    split at y
    · have := rk_le (tf (bgA tf tp (pieceF tf tp ky f o nn q).1)); omega
    · omega
theorem pc_not {f o nn k : Nat} {q : PS} {O S : List Int32} (ih : PcL tf tp ky f) (hb : q.2.2.2 = false) (hn : NN (f + 1) o nn) (hS : S.headD 0 ≠ 33) (hk : k ≤ nn) (h33 : sgA tf tp 33 q) :
    ((layF 20033 (pieceF tf tp ky f o (nn + 1) (goF (nn < 8) q))).2.2.2 = false → ∃ c : List Int32, (layF 20033 (pieceF tf tp ky f o (nn + 1) (goF (nn < 8) q))).2.1 = q.2.1 ++ c ∧ Rn tf tp ky q.1 (false, O, List.replicate k 33 ++ S, o, nn, q.2.2.1) (layF 20033 (pieceF tf tp ky f o (nn + 1) (goF (nn < 8) q))).1 (true, O ++ (c.map (xm ky) ++ List.replicate k 20033), S, o, nn - k, (layF 20033 (pieceF tf tp ky f o (nn + 1) (goF (nn < 8) q))).2.2.1) ∧ CG ky c) ∧
    ((layF 20033 (pieceF tf tp ky f o (nn + 1) (goF (nn < 8) q))).2.2.2 = true → Fl tf tp ky q.1 (false, O, List.replicate k 33 ++ S, o, nn, q.2.2.1) (layF 20033 (pieceF tf tp ky f o (nn + 1) (goF (nn < 8) q))).1) := by
  obtain ⟨h3, hc, -⟩ := sg_iff.mp h33
  obtain ⟨-, hl, hd⟩ := tk3 h3
  have hst : stpM tf tp ky q.1 (false, O, List.replicate k 33 ++ S, o, nn, q.2.2.1) = if nn < 8 then some (false, O, List.replicate (k + 1) 33 ++ S, o, nn + 1, q.2.2.1) else none := by
    rw [stp_pc h3 rfl]
    unfold pceM
    rw [if_neg hl, if_neg hd, if_neg (fun z => absurd (hc.symm.trans z.1) (by decide))]
    by_cases z : nn < 8
    · rw [if_pos ⟨hc, z⟩, if_pos z]; rfl
    · rw [if_neg (fun y => z y.2), if_neg z]
  by_cases h8 : nn < 8
  · rw [if_pos h8] at hst
    rw [go_true hb h8]
    have h1 := ih o (nn + 1) (q.1 + 1, q.2.1, q.2.2.1, false) (k + 1) O S rfl ⟨by have := hn.1; omega, hn.2.1, by omega⟩ hS (by omega)
    have hone := Rn.one hst
    generalize pieceF tf tp ky f o (nn + 1) (q.1 + 1, q.2.1, q.2.2.1, false) = t at h1 ⊢
    refine ⟨fun z => ?_, fun z => ?_⟩
    · obtain ⟨g1, g2⟩ := lay_bad z
      obtain ⟨c, a1, a2, a3⟩ := h1.1 g1
      rw [g2]
      refine ⟨c ++ [20033], ?_, ?_, a3.not⟩
      · show t.2.1 ++ [20033] = _
        rw [a1, List.append_assoc]
      · have e : (c ++ [20033]).map (xm ky) ++ List.replicate k 20033 = c.map (xm ky) ++ List.replicate (k + 1) 20033 := by
          rw [List.map_append, List.append_assoc]
          show _ ++ ([xm ky 20033] ++ _) = _
          rw [xm_not]; rfl
        rw [e]
        have e2 : nn - k = nn + 1 - (k + 1) := by omega
        rw [e2]
        exact hone.trans a2
    · have hbt : t.2.2.2 = true := by
        cases y : t.2.2.2 with
        | true => rfl
        | false =>
          unfold layF at z
          rw [if_neg (by rw [y]; decide)] at z
          cases z
      rw [lay_true hbt]
      exact hone.fl (h1.2 hbt)
  · rw [if_neg h8] at hst
    rw [go_false h8, piece_bad rfl, lay_true rfl]
    exact ⟨fun z => (by cases z), fun _ => ⟨_, Rn.refl, hst, fun _ => Or.inl rfl⟩⟩
theorem pc_brk {f o nn k : Nat} {q : PS} {O S : List Int32} (htp : tp ≤ 96) (ih : PcL tf tp ky f) (hb : q.2.2.2 = false) (hn : NN (f + 1) o nn) (hS : S.headD 0 ≠ 33) (hk : k ≤ nn) (h40 : sgA tf tp 40 q) (W : PS) (hW : W = wholeG tf tp (pieceF tf tp ky f (o + 1) nn) (goF (o < 8) q)) :
    ((goF (sgA tf tp 41 W) W).2.2.2 = false → ∃ c : List Int32, (goF (sgA tf tp 41 W) W).2.1 = q.2.1 ++ c ∧ Rn tf tp ky q.1 (false, O, List.replicate k 33 ++ S, o, nn, q.2.2.1) (goF (sgA tf tp 41 W) W).1 (true, O ++ (c.map (xm ky) ++ List.replicate k 20033), S, o, nn - k, (goF (sgA tf tp 41 W) W).2.2.1) ∧ CG ky c) ∧
    ((goF (sgA tf tp 41 W) W).2.2.2 = true → Fl tf tp ky q.1 (false, O, List.replicate k 33 ++ S, o, nn, q.2.2.1) (goF (sgA tf tp 41 W) W).1) := by
  obtain ⟨h3, hc, -⟩ := sg_iff.mp h40
  obtain ⟨-, hl, hd⟩ := tk3 h3
  have hst : stpM tf tp ky q.1 (false, O, List.replicate k 33 ++ S, o, nn, q.2.2.1) = if o < 8 then some (false, O, 40 :: (List.replicate k 33 ++ S), o + 1, nn, q.2.2.1) else none := by
    rw [stp_pc h3 rfl]
    unfold pceM
    rw [if_neg hl, if_neg hd]
    by_cases z : o < 8
    · rw [if_pos ⟨hc, z⟩, if_pos z]
    · rw [if_neg (fun y => z y.2), if_neg (fun y => absurd (hc.symm.trans y.1) (by decide)), if_neg z]
  by_cases h8 : o < 8
  · rw [if_pos h8] at hst
    rw [go_true hb h8] at hW
    have hlv := lv_whole htp (fun q => gn_piece f (o + 1) nn q) (ih.lv (o := o + 1) (nn := nn) ⟨by have := hn.1; omega, by omega, hn.2.2⟩)
    have h1 := hlv (q.1 + 1, q.2.1, q.2.2.1, false) O (40 :: (List.replicate k 33 ++ S)) rfl ⟨by show rk 40 < 1; decide, by show (40 : Int32) ≠ 33; decide⟩
    rw [← hW] at h1
    have hone := Rn.one hst
    rcases Bool.eq_false_or_eq_true W.2.2.2 with hbt | hbt
    · have e : goF (sgA tf tp 41 W) W = (W.1, W.2.1, W.2.2.1, true) := if_pos (Or.inl hbt)
      rw [e]
      exact ⟨fun z => (by cases z), fun _ => hone.fl (h1.2 hbt)⟩
    · obtain ⟨c, p, O', a1, a2, a3, a4, a5, a6⟩ := h1.1 hbt
      by_cases h41 : sgA tf tp 41 W
      · obtain ⟨k3, kc, -⟩ := sg_iff.mp h41
        rw [go_true hbt h41]
        have hs2 : stpM tf tp ky W.1 (true, O', p ++ 40 :: (List.replicate k 33 ++ S), o + 1, nn, W.2.2.1) = some (true, O ++ (c.map (xm ky) ++ List.replicate k 20033), S, o, nn - k, W.2.2.1) := by
          rw [stp_sg k3 rfl, kc]
          have e1 : sgnM 41 (true, O', p ++ 40 :: (List.replicate k 33 ++ S), o + 1, nn, W.2.2.1) = brkM (true, O', p ++ 40 :: (List.replicate k 33 ++ S), o + 1, nn, W.2.2.1) := if_pos rfl
          rw [e1]
          have ha := closeD_app (r := 1) p O' (40 :: (List.replicate k 33 ++ S)) a4 (by show rk 40 < 1; decide)
          have hN := closeN_rep k nn (O' ++ flu p) S hS
          unfold brkM
          rw [if_neg (show ¬ o + 1 = 0 by omega)]
          show some (true, (closeN (closeD 1 O' (p ++ 40 :: (List.replicate k 33 ++ S))).1 (closeD 1 O' (p ++ 40 :: (List.replicate k 33 ++ S))).2.tail nn).1, (closeN (closeD 1 O' (p ++ 40 :: (List.replicate k 33 ++ S))).1 (closeD 1 O' (p ++ 40 :: (List.replicate k 33 ++ S))).2.tail nn).2.1, o + 1 - 1, (closeN (closeD 1 O' (p ++ 40 :: (List.replicate k 33 ++ S))).1 (closeD 1 O' (p ++ 40 :: (List.replicate k 33 ++ S))).2.tail nn).2.2, W.2.2.1) = _
          rw [ha]
          show some (true, (closeN (O' ++ flu p) (List.replicate k 33 ++ S) nn).1, (closeN (O' ++ flu p) (List.replicate k 33 ++ S) nn).2.1, o + 1 - 1, (closeN (O' ++ flu p) (List.replicate k 33 ++ S) nn).2.2, W.2.2.1) = _
          rw [hN, a3, List.append_assoc]
          rfl
        refine ⟨fun _ => ⟨c, a1, (hone.trans a2).trans (Rn.one hs2), a6⟩, fun z => (by cases z)⟩
      · rw [go_false h41]
        refine ⟨fun z => (by cases z), fun _ => (hone.trans a2).fl ⟨_, Rn.refl, ?_, fun _ => Or.inr (by show 0 < o + 1; omega)⟩⟩
        refine stp_none (Or.inl (fun y => h41 (sg_iff.mpr ⟨y.1, y.2, by rw [hbt]; decide⟩))) a5 (fun y => kinds_w y) (kinds W.1).1
  · rw [if_neg h8] at hst
    rw [go_false h8] at hW
    have e : W = (q.1, q.2.1, q.2.2.1, true) := by rw [hW]; exact if_pos rfl
    rw [e]
    have e2 : goF (sgA tf tp 41 (q.1, q.2.1, q.2.2.1, true)) (q.1, q.2.1, q.2.2.1, true) = (q.1, q.2.1, q.2.2.1, true) := if_pos (Or.inl rfl)
    rw [e2]
    exact ⟨fun z => (by cases z), fun _ => ⟨_, Rn.refl, hst, fun _ => Or.inl rfl⟩⟩
theorem pc_val {o nn k : Nat} {q : PS} {O S : List Int32} (hky : ky = 0 ∨ ky = 1 ∨ ky = 2) (hS : S.headD 0 ≠ 33) (hb : q.2.2.2 = false) (h33 : ¬ sgA tf tp 33 q) (h40 : ¬ sgA tf tp 40 q) :
    ((pieceV tf tp ky q).2.2.2 = false → ∃ c : List Int32, (pieceV tf tp ky q).2.1 = q.2.1 ++ c ∧ Rn tf tp ky q.1 (false, O, List.replicate k 33 ++ S, o, nn, q.2.2.1) (pieceV tf tp ky q).1 (true, O ++ (c.map (xm ky) ++ List.replicate k 20033), S, o, nn - k, (pieceV tf tp ky q).2.2.1) ∧ CG ky c) ∧
    ((pieceV tf tp ky q).2.2.2 = true → Fl tf tp ky q.1 (false, O, List.replicate k 33 ++ S, o, nn, q.2.2.1) (pieceV tf tp ky q).1) := by
  unfold pieceV
  by_cases hv : numP (tkA tf tp q.1) (vaA tf tp q.1) ∨ 0 ≤ nameF ky (tkA tf tp q.1) (vaA tf tp q.1)
  · obtain ⟨v1, v2, v3⟩ := val_yes (tf := tf) (tp := tp) hky hv
    rw [go_true rfl hv]
    refine ⟨fun _ => ⟨[vcd tf tp ky q.1], rfl, ?_, CG.one v2 v3⟩, fun z => (by cases z)⟩
    have h1 := v1 (false, O, List.replicate k 33 ++ S, o, nn, q.2.2.1) rfl
    have hN := closeN_rep k nn (O ++ [xm ky (vcd tf tp ky q.1)]) S hS
    have e : valM (xm ky (vcd tf tp ky q.1)) (false, O, List.replicate k 33 ++ S, o, nn, q.2.2.1) = (true, O ++ ([vcd tf tp ky q.1].map (xm ky) ++ List.replicate k 20033), S, o, nn - k, q.2.2.1 + 1) := by
      unfold valM
      show (true, (closeN (O ++ [xm ky (vcd tf tp ky q.1)]) (List.replicate k 33 ++ S) nn).1, (closeN (O ++ [xm ky (vcd tf tp ky q.1)]) (List.replicate k 33 ++ S) nn).2.1, o, (closeN (O ++ [xm ky (vcd tf tp ky q.1)]) (List.replicate k 33 ++ S) nn).2.2, q.2.2.1 + 1) = _
      rw [hN, List.append_assoc]
      rfl
    rw [e] at h1
    exact Rn.one h1
  · rw [go_false hv]
    refine ⟨fun z => (by cases z), fun _ => ⟨_, Rn.refl, ?_, fun _ => Or.inl rfl⟩⟩
    exact val_no hky hv (fun y => h33 (sg_iff.mpr ⟨y.1, y.2, by rw [hb]; decide⟩)) (fun y => h40 (sg_iff.mpr ⟨y.1, y.2, by rw [hb]; decide⟩)) _ rfl
theorem pcL (htp : tp ≤ 96) (hky : ky = 0 ∨ ky = 1 ∨ ky = 2) : ∀ f, PcL tf tp ky f
  | 0 => fun o nn q k O S hb hn => absurd hn.1 (by have := hn.2; omega)
  | f + 1 => by
    have ih := pcL htp hky f
    intro o nn q k O S hb hn hS hk
    have hnb : ¬ q.2.2.2 = true := by rw [hb]; decide
    by_cases h33 : sgA tf tp 33 q
    · have e : pieceF tf tp ky (f + 1) o nn q = layF 20033 (pieceF tf tp ky f o (nn + 1) (goF (nn < 8) q)) := by
        show (if q.2.2.2 = true then q else if sgA tf tp 33 q then _ else _) = _
        rw [if_neg hnb, if_pos h33]
      rw [e]
      exact pc_not ih hb hn hS hk h33
    · by_cases h40 : sgA tf tp 40 q
      · have e : pieceF tf tp ky (f + 1) o nn q = goF (sgA tf tp 41 (wholeG tf tp (pieceF tf tp ky f (o + 1) nn) (goF (o < 8) q))) (wholeG tf tp (pieceF tf tp ky f (o + 1) nn) (goF (o < 8) q)) := by
          show (if q.2.2.2 = true then q else if sgA tf tp 33 q then _ else if sgA tf tp 40 q then _ else _) = _
          rw [if_neg hnb, if_neg h33, if_pos h40]
        rw [e]
        exact pc_brk htp ih hb hn hS hk h40 _ rfl
      · have e : pieceF tf tp ky (f + 1) o nn q = pieceV tf tp ky q := by
          show (if q.2.2.2 = true then q else if sgA tf tp 33 q then _ else if sgA tf tp 40 q then _ else _) = _
          rw [if_neg hnb, if_neg h33, if_neg h40]
        rw [e]
        exact pc_val hky hS hb h33 h40
/-! the class's loop -/
theorem run_rn : ∀ (k f i : Nat) (q r : MS), mrn tf tp ky k (i + 1) q = some r → k ≤ f → runM tf tp ky f i q = runM tf tp ky (f - k) (i + k) r
  | 0, f, i, q, r, h, _ => by cases h; rfl
  | k + 1, f, i, q, r, h, hf => by
    obtain ⟨f', rfl⟩ : ∃ f', f = f' + 1 := ⟨f - 1, by omega⟩
    have h' : (match stpM tf tp ky (i + 1) q with
      | none => none
      | some q' => mrn tf tp ky k (i + 1 + 1) q') = some r := h
    cases hs : stpM tf tp ky (i + 1) q with
    | none => rw [hs] at h'; cases h'
    | some q' =>
      rw [hs] at h'
      have ih := run_rn k f' (i + 1) q' r h' (by omega)
      have h0 : ¬ tkA tf tp (i + 1) = 0 := fun z => by
        unfold stpM at hs
        rw [if_pos (Or.inl z)] at hs
        cases hs
      have e : runM tf tp ky (f' + 1) i q = runM tf tp ky f' (i + 1) q' := by
        show (if tkA tf tp (i + 1) = 0 then finM tp q else match stpM tf tp ky (i + 1) q with
          | none => (nI (bgA tf tp (i + 1)), q)
          | some q' => runM tf tp ky f' (i + 1) q') = _
        rw [if_neg h0, hs]
      rw [e, ih, show f' + 1 - (k + 1) = f' - k by omega, show i + 1 + k = i + (k + 1) by omega]
theorem run_end {f i : Nat} {q : MS} (h : stpM tf tp ky (i + 1) q = none) (h0 : ¬ tkA tf tp (i + 1) = 0) : runM tf tp ky (f + 1) i q = (nI (bgA tf tp (i + 1)), q) := by
  show (if tkA tf tp (i + 1) = 0 then finM tp q else match stpM tf tp ky (i + 1) q with
    | none => (nI (bgA tf tp (i + 1)), q)
    | some q' => runM tf tp ky f (i + 1) q') = _
  rw [if_neg h0, h]
theorem run_fin {f i : Nat} {q : MS} (h0 : tkA tf tp (i + 1) = 0) : runM tf tp ky (f + 1) i q = finM tp q := if_pos h0
end PAR5
