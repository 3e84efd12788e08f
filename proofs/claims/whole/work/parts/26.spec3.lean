abbrev ckFin (b rt : Int32) (Q m2 : Nat) : Prop := (¬ b = 0 ∧ rt = nI Q ∧ Q = m2) ∨ (b = 0 ∧ rt = nI Q ∧ Q < m2)
theorem ck_end0 {b rt : Int32} {Q m2 wt : Nat} (h : ckFin b rt Q m2) (hm : m2 ≤ 60) (hw : wt ≤ 60) (h1 : ¬ b = 0) (h2 : rt = nI wt) : (0 : Int32) = if Q = m2 ∧ Q = wt then 0 else nI (1 + Q) := by
  rcases h with ⟨-, a, e⟩ | ⟨a, -, -⟩
  · rw [if_pos ⟨e, (nI_eq (by omega) (by omega)).mp (a.symm.trans h2)⟩]
  · exact absurd a h1
theorem ck_end1 {b rt : Int32} {Q m2 wt : Nat} (h : ckFin b rt Q m2) (hm : m2 ≤ 60) (hw : wt ≤ 60) (h1 : b = 0 ∨ ¬ rt = nI wt) : 1 + rt = if Q = m2 ∧ Q = wt then 0 else nI (1 + Q) := by
  have e : rt = nI Q := by rcases h with ⟨-, a, -⟩ | ⟨-, a, -⟩ <;> exact a
  rw [if_neg]
  · rw [e]; exact nI_add 1 Q
  · intro z
    rcases h1 with q | q
    · rcases h with ⟨a, -, -⟩ | ⟨-, -, c⟩
      · exact a q
      · omega
    · exact q (by rw [e, z.2])
def ckL (ft : TXC) (kd ws : DD) (wt f k : Nat) : Nat := @lst (ckP ft kd ws wt) (fun k => by unfold ckP; infer_instance) f k
theorem ckL_s {ft : TXC} {kd ws : DD} {wt f k : Nat} (h : ¬ ckP ft kd ws wt k) : ckL ft kd ws wt (f + 1) k = ckL ft kd ws wt f (k + 1) := by
  unfold ckL
  exact if_neg h
theorem ckL_h {ft : TXC} {kd ws : DD} {wt f k : Nat} (h : ckP ft kd ws wt k) : ckL ft kd ws wt (f + 1) k = k := by
  unfold ckL
  exact if_pos h
theorem nightN_le {d : DD} {ni k m : Nat} (hni : d 1 = nI ni) (h9 : ni ≤ 9999) (hk : k ≤ m) (hm : m ≤ 100 := by omega) : nightN d (nI k) ≤ m := by
  have e : (9999 : Int32) - d 1 = nI (9999 - ni) := by rw [hni]; exact pk_sub (a := 9999) h9
  unfold nightN held
  rw [e, if_neg (nI_pos (by omega))]
  by_cases q : nI (9999 - ni) < nI k
  · rw [if_pos q]; rw [nI_ltI (by omega) (by omega)] at q; rw [nI_clamp (by omega)]; omega
  · rw [if_neg q, nI_clamp (by omega)]; exact hk
