/-! the texts, as the class has them -/
def TTx (g : GG) (tr : Nat → Option Nat) (txb : va_W) (kf wf : DD) (nt : Nat) : Prop := ∀ j, j < nt → ∃ (xa ca len : Nat) (tc : DD) (ot : va_W), tr j = some xa ∧ len ≤ 96 ∧ txb.Perm ([(xa, .inr (5, [.int (kf j), .int (wf j), .ref ca])), (ca, .inl (g.2.1 0, len, .inl tc))] ++ ot)
theorem lt_pred {x e : Int32} {n : Nat} (he : e = nI n) (hn : n < 1073741824) (h0 : 0 ≤ x) : x < e ↔ x ≤ e - 1 := by
  obtain ⟨j, hj, rfl⟩ := nI_of (x := x) (Int32.not_lt.mpr h0)
  subst he
  rw [nI_ltI hj (by omega)]
  rcases n with _ | k
  · constructor
    · intro z; omega
    · intro z
      exact absurd z (by rw [show (nI 0 - 1 : Int32) = -1 from rfl]; intro q; have := nI_pos' hj; grind)
  · rw [nI_pred, nI_leI hj (by omega)]; omega
/-! rows that are told -/
theorem ck_hit {ft : TXC} {kd ws : DD} {wt i m : Nat} {v : Int32} (hi : i < 2 * m) (hl : ckL ft kd ws wt (2 * m - i) i = ckQ ft kd ws wt m) (hv : v = ckN ft kd i) (h : ¬ i < wt ∨ ¬ ws i = v) : ckQ ft kd ws wt m = i := by
  rw [← hl, show 2 * m - i = (2 * m - (i + 1)) + 1 by omega]
  exact ckL_h (fun z => by rcases h with q | q; exact q z.1; exact q (by rw [hv]; exact z.2))
theorem ck_go {ft : TXC} {kd ws : DD} {wt i m : Nat} {v : Int32} (hi : i < 2 * m) (hl : ckL ft kd ws wt (2 * m - i) i = ckQ ft kd ws wt m) (hv : v = ckN ft kd i) (h1 : i < wt) (h2 : ws i = v) : ckL ft kd ws wt (2 * m - (i + 1)) (i + 1) = ckQ ft kd ws wt m := by
  rw [← hl, show 2 * m - i = (2 * m - (i + 1)) + 1 by omega]
  exact (ckL_s (fun z => z ⟨h1, by rw [h2]; exact hv⟩)).symm
