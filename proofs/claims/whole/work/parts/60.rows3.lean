/-! the world behind a call, put anew: the callee's blocks first, then the others by their places -/
theorem va_D_sub {A : Nat → Prop} {w1 w2 : va_W} (h : va_D A (w1 ++ w2)) : va_D A w1 := by
  obtain ⟨h1, h2⟩ := va_D_iff.mp h
  rw [List.map_append] at h1
  exact va_D_iff.mpr ⟨(List.nodup_append.mp h1).1, fun q hq => h2 q (List.mem_append_left _ hq)⟩
theorem WD.drop {g : GG} {A : Nat → Prop} {s : State} {H : Heap} {locs : List Loc} {bs bs' : BW} {x : va_W} (h : WD g A s H locs bs) (hp : bs.flatten.Perm (bs'.flatten ++ x)) : WD g A s H locs bs' :=
  ⟨h.1, va_P_iff.mpr fun q hq => va_P_iff.mp (va_P_perm hp h.2.1) q (List.mem_append_left _ hq), va_D_sub (va_D_perm hp h.2.2.1), h.2.2.2⟩
theorem wd_re {g : GG} {A : Nat → Prop} {s : State} {H : Heap} {locs : List Loc} {bs nw rest : BW} {isC : List Nat} (N : Nat) (isR : List Nat) (hw : WD g A s H locs (bset bs isC nw)) (hn : isC.Nodup) (hlen : isC.length = nw.length) (hN : bs.length = N) (hlt : ∀ i ∈ isC, i < N) (hR : isR.Nodup) (hdis : ∀ i ∈ isR, i ∉ isC) (hrest : isR.map (fun i => bs[i]?) = rest.map some) : WD g A s H locs (nw ++ rest) := by
  have h1 := bset_perm isC bs nw hn hlen (fun i hi => by rw [hN]; exact hlt i hi)
  have h2 : isR.map (fun i => (hole bs isC)[i]?) = rest.map some := by
    rw [← hrest]
    exact List.map_congr_left fun i hi => hole_get isC bs (hdis i hi)
  have h3 := hole_perm isR (hole bs isC) rest hR h2
  refine hw.drop (x := (hole (hole bs isC) isR).flatten) (h1.trans ?_)
  rw [List.flatten_append, List.append_assoc]
  exact List.Perm.append_left _ h3
/-- a world's blocks put in another order, or fewer of them -/
theorem wd_at {g : GG} {A : Nat → Prop} {s : State} {H : Heap} {locs : List Loc} {bs nw : BW} (isR : List Nat) (hw : WD g A s H locs bs) (hR : isR.Nodup) (hrest : isR.map (fun i => bs[i]?) = nw.map some) : WD g A s H locs nw :=
  hw.drop (hole_perm isR bs nw hR hrest)
