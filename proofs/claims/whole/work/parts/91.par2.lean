/-! each level of the reference, and what the class's machine does with it -/
section PAR2
variable {tf : DD} {tp : Nat} {ky : Int32}
abbrev tOK (r : Nat) (S : List Int32) : Prop := tpR S < r ∧ S.headD 0 ≠ 33
/-- what reading a level comes to -/
def Lv (tf : DD) (tp : Nat) (ky : Int32) (o nn r : Nat) (q r' : PS) (O S : List Int32) (i : Nat) (s0 : MS) : Prop :=
  (r'.2.2.2 = false → ∃ (c p O' : List Int32), r'.2.1 = q.2.1 ++ c ∧ Rn tf tp ky i s0 r'.1 (true, O', p ++ S, o, nn, r'.2.2.1) ∧ O' ++ flu p = O ++ c.map (xm ky) ∧ (∀ a ∈ p, r ≤ rk a) ∧ NS tf tp ky r r'.1 (true, O', p ++ S, o, nn, r'.2.2.1) ∧ CG ky c) ∧ (r'.2.2.2 = true → Fl tf tp ky i s0 r'.1)
def LvF (tf : DD) (tp : Nat) (ky : Int32) (o nn r : Nat) (F : PS → PS) : Prop := ∀ (q : PS) (O S : List Int32), q.2.2.2 = false → tOK r S → Lv tf tp ky o nn r q (F q) O S q.1 (false, O, S, o, nn, q.2.2.1)
theorem stp_sg {j : Nat} {t : MS} (h3 : tkA tf tp j = 3) (hm : t.1 = true) : stpM tf tp ky j t = sgnM (tf (bgA tf tp j)) t := by
  unfold stpM
  rw [if_neg (fun z => by rcases z with y | y <;> rw [h3] at y <;> exact absurd y (by decide)), if_pos hm]
theorem op_tk {j r : Nat} (h : opR tf tp j = r) (hr : 0 < r) : tkA tf tp j = 3 ∧ rk (tf (bgA tf tp j)) = r := by
  unfold opR at h
  by_cases z : tkA tf tp j = 3
  · rw [if_pos z] at h; exact ⟨z, h⟩
  · rw [if_neg z] at h; omega
theorem rk_41 {c : Int32} (h : ¬ rk c = 0) : ¬ c = 41 ∧ ¬ c = 33 := ⟨fun e => h (by rw [e]; decide), fun e => h (by rw [e]; decide)⟩
theorem tOK_push {r : Nat} {c : Int32} {S : List Int32} (h : rk c = r) (hr : 0 < r) : tOK (r + 1) (c :: S) := by
  refine ⟨?_, (rk_41 (c := c) (by omega)).2⟩
  show rk c < r + 1
  omega
/-- a sign of rank r, behind what waits above S: all that is written out, the sign waits -/
theorem stp_op {j r o nn w : Nat} {O' p S : List Int32} (hop : opR tf tp j = r) (hr : 0 < r) (hp : ∀ a ∈ p, r ≤ rk a) (hS : tpR S < r) (h3 : r = 3 → ∀ a ∈ p, 4 ≤ rk a) : stpM tf tp ky j (true, O', p ++ S, o, nn, w) = some (false, O' ++ flu p, tf (bgA tf tp j) :: S, o, nn, w) := by
  obtain ⟨h1, h2⟩ := op_tk hop hr
  have h0 : ¬ rk (tf (bgA tf tp j)) = 0 := by omega
  rw [stp_sg h1 rfl]
  have hc := closeD_comp (r := r) (p ++ S) O'
  have ha := closeD_app p O' S hp hS
  rw [ha] at hc
  rw [sgn_t (rk_41 h0).1 h0 (fun z => by
    have hr3 : r = 3 := by omega
    have h4 := h3 hr3
    have ha4 := closeD_app (r := r + 1) p O' S (fun a m => by have := h4 a m; omega) (by omega)
    have h5 := z.2
    rw [h2] at h5
    have h6 : tpR (closeD (r + 1) O' (p ++ S)).2 = 3 := h5
    rw [ha4] at h6
    have h7 : tpR S = 3 := h6
    omega)]
  rw [h2]
  show some (false, (closeD r (closeD (r + 1) O' (p ++ S)).1 (closeD (r + 1) O' (p ++ S)).2).1, tf (bgA tf tp j) :: (closeD r (closeD (r + 1) O' (p ++ S)).1 (closeD (r + 1) O' (p ++ S)).2).2, o, nn, w) = _
  rw [hc]
theorem cdA_tf {q : PS} (h : tkA tf tp q.1 = 3) : cdA tf tp q = 20000 + tf (bgA tf tp q.1) := cdA_of (tk3 h).1
theorem map_bin {c1 c2 : List Int32} {s : Int32} (hs : ¬ rk s = 0) : (c1 ++ (c2 ++ [20000 + s])).map (xm ky) = c1.map (xm ky) ++ (c2.map (xm ky) ++ [20000 + s]) := by
  rw [List.map_append, List.map_append]
  show _ ++ (_ ++ [xm ky (20000 + s)]) = _
  rw [xm_sgn (rk_sgn hs)]
/-- a sign, then its right side -/
theorem lv_bin {o nn r : Nat} {F : PS → PS} (hr : 0 < r) (hF : LvF tf tp ky o nn (r + 1) F) {q0 q : PS} {i : Nat} {s0 : MS} {O S c p O' : List Int32} (hb : q.2.2.2 = false) (hS : tOK r S) (hcs : q.2.1 = q0.2.1 ++ c) (hrn : Rn tf tp ky i s0 q.1 (true, O', p ++ S, o, nn, q.2.2.1)) (hO : O' ++ flu p = O ++ c.map (xm ky)) (hp : ∀ a ∈ p, r ≤ rk a) (hcg : CG ky c) (hop : opR tf tp q.1 = r) (h3 : r = 3 → ∀ a ∈ p, 4 ≤ rk a) :
    let r' := layF (cdA tf tp q) (F (nxF q))
    (r'.2.2.2 = false → ∃ (c' p2 O2 : List Int32), r'.2.1 = q0.2.1 ++ c' ∧ Rn tf tp ky i s0 r'.1 (true, O2, (p2 ++ [tf (bgA tf tp q.1)]) ++ S, o, nn, r'.2.2.1) ∧ O2 ++ flu (p2 ++ [tf (bgA tf tp q.1)]) = O ++ c'.map (xm ky) ∧ (∀ a ∈ p2, r + 1 ≤ rk a) ∧ NS tf tp ky (r + 1) r'.1 (true, O2, (p2 ++ [tf (bgA tf tp q.1)]) ++ S, o, nn, r'.2.2.1) ∧ CG ky c') ∧ (r'.2.2.2 = true → Fl tf tp ky i s0 r'.1) := by
  obtain ⟨hk3, hkr⟩ := op_tk hop hr
  have h0 : ¬ rk (tf (bgA tf tp q.1)) = 0 := by omega
  have hst := stp_op (ky := ky) (o := o) (nn := nn) (w := q.2.2.1) (O' := O') hop hr hp hS.1 h3
  rw [hO] at hst
  have hrun := hrn.trans (Rn.one hst)
  have hsub := hF (nxF q) (O ++ c.map (xm ky)) (tf (bgA tf tp q.1) :: S) hb (tOK_push hkr hr)
  have e1 : (nxF q).1 = q.1 + 1 := rfl
  have e2 : (nxF q).2.2.1 = q.2.2.1 := rfl
  have e3 : (nxF q).2.1 = q.2.1 := rfl
  unfold Lv at hsub
  rw [e1, e2, e3] at hsub
  rw [cdA_tf hk3]
  generalize F (nxF q) = t at hsub ⊢
  refine ⟨fun hr' => ?_, fun hr' => ?_⟩
  · obtain ⟨g1, g2⟩ := lay_bad hr'
    obtain ⟨c2, p2, O2, a1, a2, a3, a4, a5, a6⟩ := hsub.1 g1
    rw [g2]
    refine ⟨c ++ (c2 ++ [20000 + tf (bgA tf tp q.1)]), p2, O2, ?_, ?_, ?_, a4, ?_, hcg.bin a6 h0⟩
    · show t.2.1 ++ [20000 + tf (bgA tf tp q.1)] = _
      rw [a1, hcs]
      simp only [List.append_assoc]
    · show Rn tf tp ky i s0 t.1 _
      have := hrun.trans a2
      rw [List.append_assoc]
      exact this
    · rw [map_bin h0]
      show O2 ++ (p2 ++ [tf (bgA tf tp q.1)]).map (fun a => 20000 + a) = _
      rw [List.map_append, ← List.append_assoc]
      show (O2 ++ flu p2) ++ [20000 + tf (bgA tf tp q.1)] = _
      rw [a3]
      simp only [List.append_assoc]
    · show NS tf tp ky (r + 1) t.1 _
      rw [List.append_assoc]
      exact a5
  · have hbt : t.2.2.2 = true := by
      cases z : t.2.2.2 with
      | true => rfl
      | false =>
        unfold layF at hr'
        rw [if_neg (by rw [z]; decide)] at hr'
        cases hr'
    have e4 : layF (20000 + tf (bgA tf tp q.1)) t = t := if_pos hbt
    rw [e4]
    exact hrun.fl (hsub.2 hbt)
/-- the loop of a level -/
theorem lv_loop {o nn r : Nat} {F : PS → PS} {is : PS → Prop} [DecidablePred is] (hr : 0 < r) (hr3 : r ≠ 3) (htp : tp ≤ 96) (hG : ∀ q, Gn tf tp q (F q)) (his : ∀ q : PS, q.2.2.2 = false → (is q ↔ opR tf tp q.1 = r)) (hisb : ∀ q : PS, q.2.2.2 = true → ¬ is q) (hF : LvF tf tp ky o nn (r + 1) F) {q0 : PS} {i : Nat} {s0 : MS} {O S : List Int32} (hS : tOK r S) : ∀ (f : Nat) (q : PS) (c p O' : List Int32), q.2.2.2 = false → 96 < bgA tf tp q.1 + f → q.2.1 = q0.2.1 ++ c → Rn tf tp ky i s0 q.1 (true, O', p ++ S, o, nn, q.2.2.1) → O' ++ flu p = O ++ c.map (xm ky) → (∀ a ∈ p, r ≤ rk a) → NS tf tp ky (r + 1) q.1 (true, O', p ++ S, o, nn, q.2.2.1) → CG ky c → Lv tf tp ky o nn r q0 (loopF is F (cdA tf tp) f q) O S i s0
  | 0, q, c, p, O', hb, hf, _, _, _, _, _, _ => absurd hf (by have := bg_tp (tf := tf) (tp := tp) q.1; omega)
  | f + 1, q, c, p, O', hb, hf, hcs, hrn, hO, hp, hns, hcg => by
    by_cases hi : is q
    · rw [loop_t hi]
      have hop := (his q hb).mp hi
      have hk3 := (op_tk hop hr).1
      have hbin := lv_bin hr hF hb hS hcs hrn hO hp hcg hop (fun e => absurd e hr3)
      have hfl := fu_go (v := cdA tf tp q) htp hk3 (by rw [hb]; decide) (hG (nxF q)) (fun _ => hf)
      generalize layF (cdA tf tp q) (F (nxF q)) = t at hbin hfl ⊢
      cases hbt : t.2.2.2 with
      | false =>
        obtain ⟨c', p2, O2, a1, a2, a3, a4, a5, a6⟩ := hbin.1 hbt
        refine lv_loop hr hr3 htp hG his hisb hF hS f t c' _ O2 hbt (hfl.2 hbt) a1 a2 a3 (fun a ha => ?_) a5 a6
        rcases List.mem_append.mp ha with z | z
        · have := a4 a z; omega
        · rw [List.mem_singleton] at z
          rw [z, (op_tk hop hr).2]; exact Nat.le_refl _
      | true =>
        obtain ⟨f', hf'⟩ : ∃ f', f = f' + 1 := ⟨f - 1, by have := hfl.1; omega⟩
        rw [hf', loop_f (hisb t hbt)]
        exact ⟨fun z => absurd (hbt.symm.trans z) (by decide), fun _ => hbin.2 hbt⟩
    · rw [loop_f hi]
      refine ⟨fun _ => ⟨c, p, O', hcs, hrn, hO, hp, fun h => ?_, hcg⟩, fun z => absurd (hb.symm.trans z) (by decide)⟩
      have : opR tf tp q.1 ≠ r := fun e => hi ((his q hb).mpr e)
      exact hns (by omega)
theorem lv_level {o nn r : Nat} {F : PS → PS} {is : PS → Prop} [DecidablePred is] (hr : 0 < r) (hr3 : r ≠ 3) (htp : tp ≤ 96) (hG : ∀ q, Gn tf tp q (F q)) (his : ∀ q : PS, q.2.2.2 = false → (is q ↔ opR tf tp q.1 = r)) (hisb : ∀ q : PS, q.2.2.2 = true → ¬ is q) (hF : LvF tf tp ky o nn (r + 1) F) : LvF tf tp ky o nn r (fun q => loopF is F (cdA tf tp) 100 (F q)) := by
  intro q O S hb hS
  have h1 := hF q O S hb ⟨by have := hS.1; omega, hS.2⟩
  show Lv tf tp ky o nn r q (loopF is F (cdA tf tp) 100 (F q)) O S q.1 _
  generalize F q = t at h1 ⊢
  cases hbt : t.2.2.2 with
  | false =>
    obtain ⟨c, p, O', a1, a2, a3, a4, a5, a6⟩ := h1.1 hbt
    exact lv_loop hr hr3 htp hG his hisb hF hS 100 t c p O' hbt (by omega) a1 a2 a3 (fun a ha => by have := a4 a ha; omega) a5 a6
  | true =>
    rw [loop_f (f := 99) (hisb t hbt)]
    exact ⟨fun z => absurd (hbt.symm.trans z) (by decide), fun _ => h1.2 hbt⟩
/-- the tests: one at most -/
theorem lv_test {o nn : Nat} {pc : PS → PS} (hF : LvF tf tp ky o nn 4 (sumG tf tp pc)) (his : ∀ q : PS, q.2.2.2 = false → ((sgA tf tp 60 q ∨ sgA tf tp 61 q ∨ sgA tf tp 62 q) ↔ opR tf tp q.1 = 3)) : LvF tf tp ky o nn 3 (testG tf tp pc) := by
  intro q O S hb hS
  have h1 := hF q O S hb ⟨by have := hS.1; omega, hS.2⟩
  unfold testG
  generalize sumG tf tp pc q = t at h1 ⊢
  rcases Bool.eq_false_or_eq_true t.2.2.2 with hbt | hbt
  · rw [if_neg (fun z => by rcases z with y | y | y <;> exact y.2.2 hbt)]
    exact ⟨fun z => absurd (hbt.symm.trans z) (by decide), fun _ => h1.2 hbt⟩
  · skip
    obtain ⟨c, p, O', a1, a2, a3, a4, a5, a6⟩ := h1.1 hbt
    by_cases hi : sgA tf tp 60 t ∨ sgA tf tp 61 t ∨ sgA tf tp 62 t
    · rw [if_pos hi]
      have hop := (his t hbt).mp hi
      have hbin := lv_bin (r := 3) (by omega) hF hbt hS a1 a2 a3 (fun a ha => by have := a4 a ha; omega) a6 hop (fun _ => a4)
      generalize layF (cdA tf tp t) (sumG tf tp pc (nxF t)) = u at hbin ⊢
      refine ⟨fun hu => ?_, hbin.2⟩
      obtain ⟨c', p2, O2, b1, b2, b3, b4, b5, b6⟩ := hbin.1 hu
      have hkr := (op_tk hop (by omega)).2
      refine ⟨c', _, O2, b1, b2, b3, fun a ha => ?_, fun h => ?_, b6⟩
      · rcases List.mem_append.mp ha with z | z
        · have := b4 a z; omega
        · rw [List.mem_singleton] at z
          rw [z, hkr]; exact Nat.le_refl _
      · rcases Nat.lt_or_ge 3 (opR tf tp u.1) with z | z
        · exact b5 z
        · have h3 : opR tf tp u.1 = 3 := by omega
          refine ⟨h3, ?_⟩
          obtain ⟨k3, kr⟩ := op_tk h3 (by omega)
          rw [stp_sg k3 rfl]
          have h0 : ¬ rk (tf (bgA tf tp u.1)) = 0 := by omega
          refine sgn_f (rk_41 h0).1 h0 ⟨kr, ?_⟩
          rw [kr]
          show tpR (closeD (3 + 1) O2 ((p2 ++ [tf (bgA tf tp t.1)]) ++ S)).2 = 3
          rw [List.append_assoc, closeD_app p2 O2 ([tf (bgA tf tp t.1)] ++ S) b4 (by show rk (tf (bgA tf tp t.1)) < 3 + 1; omega)]
          exact hkr
    · rw [if_neg hi]
      refine ⟨fun _ => ⟨c, p, O', a1, a2, a3, fun a ha => by have := a4 a ha; omega, fun h => ?_, a6⟩, fun z => absurd (hbt.symm.trans z) (by decide)⟩
      have : opR tf tp t.1 ≠ 3 := fun e => hi ((his t hbt).mpr e)
      exact a5 (by omega)
end PAR2
