/-! calls whose two sides say the same in other words -/
theorem feed_t {tp : Nat} (h : tp ≤ 96) : nI tp + 12 ≤ 96 ↔ tp + 12 ≤ 96 := by
  rw [show (12 : Int32) = nI 12 from rfl, nI_add, show (96 : Int32) = nI 96 from rfl, nI_leI (by omega) (by omega)]
theorem feed_n {tp : Nat} (h : tp ≤ 96) : (if nI tp + 12 ≤ 96 then nI tp + 12 else nI tp) = nI (if tp + 12 ≤ 96 then tp + 12 else tp) := by
  by_cases q : tp + 12 ≤ 96
  · rw [if_pos q, if_pos ((feed_t h).mpr q)]
    exact nI_add tp 12
  · rw [if_neg q, if_neg (fun z => q ((feed_t h).mp z))]
theorem feed_f {tp : Nat} {f f' : DD} (h : tp ≤ 96) : (if nI tp + 12 ≤ 96 then f else f') = (if tp + 12 ≤ 96 then f else f') := by
  by_cases q : tp + 12 ≤ 96
  · rw [if_pos q, if_pos ((feed_t h).mpr q)]
  · rw [if_neg q, if_neg (fun z => q ((feed_t h).mp z))]
theorem feed_r {tp : Nat} (h : tp ≤ 96) : (if nI tp + 12 ≤ 96 then nI tp + 12 else -1000000003) = (if tp + 12 ≤ 96 then nI (tp + 12) else -1000000003) := by
  by_cases q : tp + 12 ≤ 96
  · rw [if_pos q, if_pos ((feed_t h).mpr q)]
    exact nI_add tp 12
  · rw [if_neg q, if_neg (fun z => q ((feed_t h).mp z))]
theorem feed_m {ma : Nat → Nat} {kp at0 bg0 tk0 cd0 wo0 ky0 op0 nt0 wr0 bw0 wt : Int32} {va0 : Int64} {tp : Nat} : (if tp + 12 ≤ 96 then (mF ma kp (nI tp) at0 bg0 tk0 va0 cd0 wo0 ky0 op0 nt0 wr0 bw0 wt).set 11 (.int (nI (tp + 12))) else mF ma kp (nI tp) at0 bg0 tk0 va0 cd0 wo0 ky0 op0 nt0 wr0 bw0 wt) = mF ma kp (nI (if tp + 12 ≤ 96 then tp + 12 else tp)) at0 bg0 tk0 va0 cd0 wo0 ky0 op0 nt0 wr0 bw0 wt := by
  by_cases q : tp + 12 ≤ 96
  · rw [if_pos q, if_pos q]; rfl
  · rw [if_neg q, if_neg q]
theorem trim_n {tp : Nat} {x : Int32} (h : tp ≤ 96) : (if 0 ≤ x ∧ x ≤ nI tp then x else nI tp) = nI (if 0 ≤ x ∧ x ≤ nI tp then x.toNatClampNeg else tp) := by
  by_cases q : 0 ≤ x ∧ x ≤ nI tp
  · rw [if_pos q, if_pos q]
    obtain ⟨j, hj, rfl⟩ := rng_nat (m := tp) (by omega) q.1 q.2
    rw [nI_clamp (by omega)]
  · rw [if_neg q, if_neg q]
theorem trim_le {tp : Nat} {x : Int32} (h : tp ≤ 96) : (if 0 ≤ x ∧ x ≤ nI tp then x.toNatClampNeg else tp) ≤ 96 := by
  by_cases q : 0 ≤ x ∧ x ≤ nI tp
  · rw [if_pos q]
    obtain ⟨j, hj, rfl⟩ := rng_nat (m := tp) (by omega) q.1 q.2
    rw [nI_clamp (by omega)]
    omega
  · rw [if_neg q]; exact h
theorem trim_m {ma : Nat → Nat} {kp at0 bg0 tk0 cd0 wo0 ky0 op0 nt0 wr0 bw0 wt x : Int32} {va0 : Int64} {tp : Nat} (h : tp ≤ 96) : (if 0 ≤ x ∧ x ≤ nI tp then (mF ma kp (nI tp) at0 bg0 tk0 va0 cd0 wo0 ky0 op0 nt0 wr0 bw0 wt).set 11 (.int x) else mF ma kp (nI tp) at0 bg0 tk0 va0 cd0 wo0 ky0 op0 nt0 wr0 bw0 wt) = mF ma kp (nI (if 0 ≤ x ∧ x ≤ nI tp then x.toNatClampNeg else tp)) at0 bg0 tk0 va0 cd0 wo0 ky0 op0 nt0 wr0 bw0 wt := by
  rw [← trim_n h]
  by_cases q : 0 ≤ x ∧ x ≤ nI tp
  · rw [if_pos q, if_pos q]; rfl
  · rw [if_neg q, if_neg q]
theorem tell_t {wn : Nat} (h : wn ≤ 60) : nI wn < 60 ↔ ¬ wn = 60 := by
  rw [show (60 : Int32) = nI 60 from rfl, nI_ltI (by omega) (by omega)]
  omega
theorem tell_n {wn : Nat} (h : wn ≤ 60) : (if nI wn < 60 then nI wn + 1 else nI wn) = nI (if wn = 60 then wn else wn + 1) := by
  by_cases q : wn = 60
  · rw [if_pos q, if_neg (fun z => (tell_t h).mp z q)]
  · rw [if_neg q, if_pos ((tell_t h).mpr q)]
    exact nI_1 wn
theorem tell_f {wn : Nat} {f f' : DD} (h : wn ≤ 60) : (if nI wn < 60 then f else f') = (if wn = 60 then f' else f) := by
  by_cases q : wn = 60
  · rw [if_pos q, if_neg (fun z => (tell_t h).mp z q)]
  · rw [if_neg q, if_pos ((tell_t h).mpr q)]
theorem tell_r {wn : Nat} (h : wn ≤ 60) : (if nI wn < 60 then nI wn + 1 else -1000000003) = (if wn = 60 then -1000000003 else nI (wn + 1)) := by
  by_cases q : wn = 60
  · rw [if_pos q, if_neg (fun z => (tell_t h).mp z q)]
  · rw [if_neg q, if_pos ((tell_t h).mpr q)]
    exact nI_1 wn
theorem tell_m {ma : Nat → Nat} {kp tp at0 bg0 tk0 cd0 wo0 ky0 op0 nt0 wr0 bw0 : Int32} {va0 : Int64} {wn : Nat} : (if wn = 60 then mF ma kp tp at0 bg0 tk0 va0 cd0 wo0 ky0 op0 nt0 wr0 bw0 (nI wn) else (mF ma kp tp at0 bg0 tk0 va0 cd0 wo0 ky0 op0 nt0 wr0 bw0 (nI wn)).set 38 (.int (nI (wn + 1)))) = mF ma kp tp at0 bg0 tk0 va0 cd0 wo0 ky0 op0 nt0 wr0 bw0 (nI (if wn = 60 then wn else wn + 1)) := by
  by_cases q : wn = 60
  · rw [if_pos q, if_pos q]
  · rw [if_neg q, if_neg q]; rfl
theorem ck_same {ft : TXC} {d3 kd ws : DD} {kp x : Int32} {wn : Nat} (h : ¬ kp = 0 → kd = d3) : R_check ft d3 ws kp wn x = R_check ft kd ws kp wn x := by
  by_cases q : kp = 0
  · unfold R_check
    rw [if_pos q, if_pos q]
  · rw [h q]
theorem back_d {kp : Int32} {d d3 kd : DD} (h : ¬ kp = 0 → kd = d3) : (if kp = 0 then d else kd) = (if kp = 0 then d else d3) := by
  by_cases q : kp = 0
  · rw [if_pos q, if_pos q]
  · rw [if_neg q, if_neg q, h q]
theorem back_r {kp : Int32} {d3 kd : DD} (h : ¬ kp = 0 → kd = d3) : (if kp = 0 then -1000000002 else d3 0) = (if kp = 0 then -1000000002 else kd 0) := by
  by_cases q : kp = 0
  · rw [if_pos q, if_pos q]
  · rw [if_neg q, if_neg q, h q]
theorem back_9 {kp : Int32} {d d3 kd : DD} {nt nti : Nat} (h : ¬ kp = 0 → kd = d3) (h5 : d 9 = nI nt) (h7 : kd 9 = nI nti) : (if kp = 0 then d else d3) 9 = nI (if kp = 0 then nt else nti) := by
  by_cases q : kp = 0
  · rw [if_pos q, if_pos q]; exact h5
  · rw [if_neg q, if_neg q, ← h q]; exact h7
theorem back_c {kp : Int32} {cn cn3 kf : DD} {nt nti : Nat} (h : CNI cn kf nt) (h3 : CNI cn3 kf nti) : CNI (if kp = 0 then cn else cn3) kf (if kp = 0 then nt else nti) := by
  by_cases q : kp = 0
  · rw [if_pos q, if_pos q]; exact h
  · rw [if_neg q, if_neg q]; exact h3
theorem wd_mv {g : GG} {A : Nat → Prop} {s : State} {H : Heap} {locs : List Loc} {bs : BW} {x y z : va_W} (isC : List Nat) (hw : WD g A s H locs bs) (hn : isC.Nodup) (hC : isC.map (fun i => bs[i]?) = [x, y ++ z].map some) (N : Nat) (hN : bs.length = N) (hlt : ∀ i ∈ isC, i < N) : WD g A s H locs (bset bs isC [x ++ z, y]) := by
  have h1 := hole_perm isC bs _ hn hC
  have h2 := bset_perm isC bs [x ++ z, y] hn (by have := congrArg List.length hC; simpa using this) (fun i hi => by rw [hN]; exact hlt i hi)
  refine hw.perm (h1.trans (List.Perm.trans ?_ h2.symm))
  refine List.Perm.append_right _ ?_
  show (x ++ (y ++ z ++ [])).Perm (x ++ z ++ (y ++ []))
  rw [List.append_nil, List.append_nil, List.append_assoc]
  exact List.Perm.append_left x List.perm_append_comm
theorem cr_cpy {f : DD} {cs : List Int32} {n : Nat} (h : CR f cs) (hn : n = cs.length) : CR (va_cpy f (fun _ => 0) 0 0 n) cs := by
  intro k y hy
  have hk : k < cs.length := (List.getElem?_eq_some_iff.mp hy).1
  show (if 0 ≤ k ∧ k < 0 + n then f (0 + (k - 0)) else 0) = y
  rw [if_pos (by omega), Nat.zero_add]
  exact h k y hy
