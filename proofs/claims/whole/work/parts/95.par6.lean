/-! both ways of reading a text come to the same -/
theorem mrn_bg {tf : DD} {tp : Nat} {ky : Int32} : ∀ (k i : Nat) (q r : MS), mrn tf tp ky k i q = some r → bgA tf tp i + k ≤ bgA tf tp (i + k)
  | 0, i, q, r, _ => Nat.le_refl _
  | k + 1, i, q, r, h => by
    have h' : (match stpM tf tp ky i q with
      | none => none
      | some q' => mrn tf tp ky k (i + 1) q') = some r := h
    cases hs : stpM tf tp ky i q with
    | none => rw [hs] at h'; cases h'
    | some q' =>
      rw [hs] at h'
      have ih := mrn_bg k (i + 1) q' r h'
      have h0 : ¬ tkA tf tp i = 0 := fun z => by
        unfold stpM at hs
        rw [if_pos (Or.inl z)] at hs
        cases hs
      have := bg_lt (tf := tf) (tp := tp) h0
      rw [show i + (k + 1) = i + 1 + k by omega]
      omega
theorem text_eq {tf : DD} {tp : Nat} (htp : tp ≤ 96) (hby : BY tf tp) : (wrT tf tp → (fltM tf tp).1 = nI (bgA tf tp (tqF tf tp).1)) ∧ (¬ wrT tf tp → (fltM tf tp).1 = -1 ∧ (fltM tf tp).2.2.1 = (tqF tf tp).2.1.map (xm (kyT tf tp)) ∧ (fltM tf tp).2.2.2.2.2.2 = (tqF tf tp).2.2.1 ∧ CG (kyT tf tp) (tqF tf tp).2.1 ∧ (kyT tf tp = 0 ∨ kyT tf tp = 1 ∨ kyT tf tp = 2)) := by
  have hks := key_same hby
  by_cases hk : kyT tf tp < 0
  · have e1 : tq1 tf tp = (0, [], 0, true) := go_false (q := tq0) (Int32.not_le.mpr hk)
    have e2 : tqF tf tp = (0, [], 0, true) := by unfold tqF; rw [e1]; exact if_pos rfl
    have e3 : fltM tf tp = (nI (bgA tf tp 0), q0M) := if_pos (by rw [hks]; exact hk)
    refine ⟨fun _ => by rw [e2, e3], fun h => absurd (Or.inl (by rw [e2])) h⟩
  · have hk0 : 0 ≤ kyT tf tp := Int32.not_lt.mp hk
    have hky3 : kyT tf tp = 0 ∨ kyT tf tp = 1 ∨ kyT tf tp = 2 := by
      rw [← hks]
      rcases keyM_3 (tf := tf) (b := bgA tf tp 0) (e := atA tf tp 0) with z | z | z | z
      · exact absurd hk0 (by rw [← hks, show kyM tf tp = -1 from z]; decide)
      · exact Or.inl z
      · exact Or.inr (Or.inl z)
      · exact Or.inr (Or.inr z)
    have hkl := key_len hk0
    have hb3 : 3 ≤ bgA tf tp 1 := Nat.le_trans hkl.1 (bg_step (tf := tf) (tp := tp) (i := 0))
    have e1 : tq1 tf tp = (1, [], 0, false) := go_true (q := tq0) rfl hk0
    have hlv := lv_whole (tf := tf) (ky := kyT tf tp) (pc := pieceF tf tp (kyT tf tp) 17 0 0) htp (fun q => gn_piece 17 0 0 q) ((pcL htp hky3 17).lv (o := 0) (nn := 0) ⟨by omega, by omega, by omega⟩)
    have h1 := hlv (1, [], 0, false) [] [] rfl ⟨by decide, by decide⟩
    have eT : wholeG tf tp (pieceF tf tp (kyT tf tp) 17 0 0) (1, [], 0, false) = tqF tf tp := by unfold tqF; rw [e1]
    rw [eT] at h1
    have eF : fltM tf tp = runM tf tp (kyT tf tp) 97 0 q0M := by unfold fltM; rw [hks, if_neg hk]
    rw [eF]
    unfold wrT
    generalize tqF tf tp = t at h1 ⊢
    have hgo : ∀ (k : Nat) (r : MS), mrn tf tp (kyT tf tp) k 1 q0M = some r → k ≤ 93 ∧ runM tf tp (kyT tf tp) 97 0 q0M = runM tf tp (kyT tf tp) (96 - k + 1) (0 + k) r := fun k r hm => by
      have a1 := mrn_bg k 1 q0M r hm
      have a2 := bg_tp (tf := tf) (tp := tp) (1 + k)
      refine ⟨by omega, ?_⟩
      rw [run_rn k 97 0 q0M r hm (by omega), show 97 - k = 96 - k + 1 by omega]
    rcases Bool.eq_false_or_eq_true t.2.2.2 with hbt | hbt
    · refine ⟨fun _ => ?_, fun h => absurd (Or.inl hbt) h⟩
      obtain ⟨r, ⟨k, hj, hm⟩, hn, h0⟩ := h1.2 hbt
      have hj : t.1 = 1 + k := hj
      obtain ⟨hk93, hrun⟩ := hgo k r hm
      have ej : t.1 = 0 + k + 1 := by omega
      rw [hrun]
      rw [ej] at hn h0 ⊢
      by_cases z : tkA tf tp (0 + k + 1) = 0
      · rw [run_fin z]
        unfold finM
        rw [if_pos (h0 z)]
        show nI tp = _
        rw [(tk0 (tf := tf) (tp := tp) (i := 0 + k)).mp z]
      · rw [run_end hn z]
    · obtain ⟨c, p, O', a1, ⟨k, hj, hm⟩, a3, a4, a5, a6⟩ := h1.1 hbt
      have hj : t.1 = 1 + k := hj
      have a1 : t.2.1 = c := a1
      have a3 : O' ++ flu p = c.map (xm (kyT tf tp)) := a3
      obtain ⟨hk93, hrun⟩ := hgo k _ hm
      have ej : t.1 = 0 + k + 1 := by omega
      rw [hrun]
      by_cases z : tkA tf tp t.1 = 0
      · refine ⟨fun h => ?_, fun _ => ?_⟩
        · rcases h with y | y
          · exact absurd (hbt.symm.trans y) (by decide)
          · exact absurd z y
        · have z' := z
          rw [ej] at z'
          rw [run_fin z']
          have ha := closeD_app (r := 1) p O' [] a4 (by decide)
          have e : finM tp (true, O', p ++ [], 0, 0, t.2.2.1) = (-1, (true, (closeD 1 O' (p ++ [])).1, (closeD 1 O' (p ++ [])).2, 0, 0, t.2.2.1)) := if_neg (fun y => by rcases y with x | x; exact absurd (show true = false from x) (by decide); exact absurd (show 0 < 0 from x) (by decide))
          rw [e, ha, a1, a3]
          exact ⟨rfl, rfl, rfl, a6, hky3⟩
      · refine ⟨fun _ => ?_, fun h => absurd (Or.inr z) h⟩
        have hn := stp_none (Or.inr rfl) a5 (fun y => kinds_w y) (kinds (tf := tf) (tp := tp) t.1).1
        rw [ej] at hn z ⊢
        rw [run_end hn z]
