/-! System.arraycopy, between two rows of numbers -/
theorem s_copyi {p : Program} {l : Launch} {e : Env} {R : Room} {s : State} {m : MethodId} {args : Array Value} {below : List Frame} {meth : Method} {c : Code} {H : Heap} {locs : List Loc} {cells slots : Nat} {Q : State → Prop} {g : GG} {A : Nat → Prop} {bs : BW} {cc : ByteArray} {nL pc index : Nat} {own : String} {rest : List Value} {ls : Array Slot}
    {f f1 : Nat → Int32} {a0 a1 n0 n1 : Nat} {sp dp n : Int32} (i0 i1 k : Nat)
    (cf : CallFix p m c cc nL s args gw own) (hsz : c.maxLocals = ls.size) (hw : WD g A s H locs bs) (hlink : Cond.methodLink own index arraycopyName ∈ gw) (q0 q1 : Nat) (hb0 : bs[q0]? = some [(a0, .inl (g.2.1 0, n0, .inl f))]) (hb1 : bs[q1]? = some [(a1, .inl (g.2.1 0, n1, .inl f1))])
    (hn0 : Nat.ble n0 1073741824 = true) (hn1 : Nat.ble n1 1073741824 = true) (h1 : sp = nI i0) (h2 : dp = nI i1) (h3 : n = nI k) (h4 : i0 + k ≤ n0) (h5 : i1 + k ≤ n1)
    (hfr : Nat.ble 1 R.frames = true) (hlo : Nat.ble ((rest.map fun v => v.category).sum + (nativeFrameWords "java/lang/System" "arraycopy" 5 + 11)) R.locals = true) (hdg : decode cc pc = .ok (.invokestatic index, 3))
    (kk : ∀ (H1 : Heap) (locs1 : List Loc), WD g A s H1 locs1 (bs.set q1 [(a1, .inl (g.2.1 0, n1, .inl (va_cpy f f1 i0 i1 k)))]) → W p l e R s m args below meth c H1 locs1 cells slots Q (F0 m (pc + 3) ls rest)) :
    W p l e R s m args below meth c H locs cells slots Q (F0 m pc ls (.int n :: .int dp :: .ref a1 :: .int sp :: .ref a0 :: rest)) := by
  obtain ⟨r0, z0, -⟩ := flat_at bs q0 hb0
  obtain ⟨r1, z1, z2⟩ := flat_at bs q1 hb1
  have hn0' := Nat.le_of_ble_eq_true hn0
  have hn1' := Nat.le_of_ble_eq_true hn1
  have c1 : (nI i0).toNatClampNeg = i0 := nI_clamp (by omega)
  have c2 : (nI i1).toNatClampNeg = i1 := nI_clamp (by omega)
  have c3 : (nI k).toNatClampNeg = k := nI_clamp (by omega)
  subst h1 h2 h3
  obtain ⟨hK, hP, hD, hS, hA, hG⟩ := hw
  refine va_copyi cf.1 cf.2.1 hsz cf.2.2.2.1 (cf.2.2.2.2 _ hlink) (cf.2.2.2.2 _ q547) (cf.2.2.2.2 _ q546) (cf.2.2.2.2 _ q90) hK hP hD hS r0 r1 0 0 z0 z1 rfl rfl rfl (nI_pos (by omega)) (nI_pos (by omega)) (nI_pos (by omega)) (by rw [c1, c3]; exact h4) (by rw [c2, c3]; exact h5) (fun _ _ => rfl) (Nat.le_of_ble_eq_true hfr) (Nat.le_of_ble_eq_true hlo) hdg (fun H1 locs1 hP hD hS => kk H1 locs1 ?_)
  rw [c1, c2, c3, z2] at hP hD
  exact ⟨hK, hP, hD, hS, hA, hG⟩
/-- a whole row -/
theorem s_copya {p : Program} {l : Launch} {e : Env} {R : Room} {s : State} {m : MethodId} {args : Array Value} {below : List Frame} {meth : Method} {c : Code} {H : Heap} {locs : List Loc} {cells slots : Nat} {Q : State → Prop} {g : GG} {A : Nat → Prop} {bs : BW} {cc : ByteArray} {nL pc index : Nat} {own : String} {rest : List Value} {ls : Array Slot}
    {f f1 : Nat → Int32} {a0 a1 n0 : Nat} {n : Int32}
    (cf : CallFix p m c cc nL s args gw own) (hsz : c.maxLocals = ls.size) (hw : WD g A s H locs bs) (hlink : Cond.methodLink own index arraycopyName ∈ gw) (q0 q1 : Nat) (hb0 : bs[q0]? = some [(a0, .inl (g.2.1 0, n0, .inl f))]) (hb1 : bs[q1]? = some [(a1, .inl (g.2.1 0, n0, .inl f1))])
    (hn0 : Nat.ble n0 1073741824 = true) (h3 : n = nI n0)
    (hfr : Nat.ble 1 R.frames = true) (hlo : Nat.ble ((rest.map fun v => v.category).sum + (nativeFrameWords "java/lang/System" "arraycopy" 5 + 11)) R.locals = true) (hdg : decode cc pc = .ok (.invokestatic index, 3))
    (kk : ∀ (H1 : Heap) (locs1 : List Loc), WD g A s H1 locs1 (bs.set q1 [(a1, .inl (g.2.1 0, n0, .inl f))]) → W p l e R s m args below meth c H1 locs1 cells slots Q (F0 m (pc + 3) ls rest)) :
    W p l e R s m args below meth c H locs cells slots Q (F0 m pc ls (.int n :: .int 0 :: .ref a1 :: .int 0 :: .ref a0 :: rest)) := by
  refine s_copyi 0 0 n0 cf hsz hw hlink q0 q1 hb0 hb1 hn0 hn0 rfl rfl h3 (by omega) (by omega) hfr hlo hdg (fun H1 locs1 hw => kk H1 locs1 ?_)
  have hq : q1 < bs.length := (List.getElem?_eq_some_iff.mp hb1).1
  have := hw.cong (f' := f) q1 (List.getElem?_set_self hq) (fun j hj => by unfold va_cpy; rw [if_pos (by omega)]; congr 1; omega)
  rwa [List.set_set] at this
