/-! new rows and objects -/
section ALLOC
variable {p : Program} {l : Launch} {e : Env} {R : Room} {s : State} {m : MethodId} {args : Array Value} {below : List Frame} {meth : Method} {c : Code} {H : Heap} {locs : List Loc} {cells slots : Nat} {Q : State → Prop}
variable {g : GG} {A : Nat → Prop} {bs : BW} {cc : ByteArray} {nL pc index ci N : Nat} {own : String} {rest : List Value} {ls : Array Slot} {C : String} {T : u_T} {ty : Nat → FieldType}
theorem flat_push {x : Nat × va_E} : (bs ++ [[x]]).flatten = bs.flatten ++ [x] := by simp
theorem s_newi {n : Int32} (cf : CallFix p m c cc nL s args gw own) (hw : WD g A s H locs bs) (hn : n = nI N) (hN : Nat.ble N 100000 = true) (hcells : cells + 1 ≤ R.cells) (hslots : slots + N ≤ R.slots) (hdg : decode cc pc = .ok (.newarray .int, 2))
    (kk : ∀ (q : Nat) (H1 : Heap), WD g A s H1 locs (bs ++ [[(q, .inl (g.2.1 0, N, .inl (fun _ => 0)))]]) → W p l e R s m args below meth c H1 locs (cells + 1) (slots + N) Q (F0 m (pc + 2) ls (.ref q :: rest))) : W p l e R s m args below meth c H locs cells slots Q (F0 m pc ls (.int n :: rest)) := by
  have hN' := Nat.le_of_ble_eq_true hN
  obtain ⟨hK, hP, hD, hS, hA, hG⟩ := hw
  subst hn
  refine va_newa cf.1 cf.2.1 (atype := .int) (cf.2.2.2.2 _ q137) (ty := .int) rfl hK hP hD hS hA (a0 := (N, .inl (fun _ => 0))) (fun cA => rfl) (nI_pos (by omega)) (nI_clamp (by omega)) (by show N * 4 ≤ _; omega) hcells hslots hdg (fun q cA H1 hK2 hP2 hD2 hS2 => ?_)
  have e1 : s.vm.findClass ("[" ++ FieldType.int.toString) = some cA := (hK2.2 5 (cA, .int) rfl).2
  have e2 : s.vm.findClass ("[" ++ FieldType.int.toString) = some (g.2.1 0) := (hK.2 0 (g.2.1 0, .int) rfl).2
  have e3 : cA = g.2.1 0 := Option.some.inj (e1.symm.trans e2)
  subst e3
  exact kk q H1 ⟨hK, by rw [flat_push]; exact hP2, by rw [flat_push]; exact hD2, hS2, hA, hG⟩
theorem s_newz {n : Int32} (cf : CallFix p m c cc nL s args gw own) (hw : WD g A s H locs bs) (hn : n = nI N) (hN : Nat.ble N 100000 = true) (hcells : cells + 1 ≤ R.cells) (hslots : slots + N ≤ R.slots) (hdg : decode cc pc = .ok (.newarray .boolean, 2))
    (kk : ∀ (q : Nat) (H1 : Heap), WD g A s H1 locs (bs ++ [[(q, .inl (g.2.1 1, N, .inl (fun _ => 0)))]]) → W p l e R s m args below meth c H1 locs (cells + 1) (slots + N) Q (F0 m (pc + 2) ls (.ref q :: rest))) : W p l e R s m args below meth c H locs cells slots Q (F0 m pc ls (.int n :: rest)) := by
  have hN' := Nat.le_of_ble_eq_true hN
  obtain ⟨hK, hP, hD, hS, hA, hG⟩ := hw
  subst hn
  refine va_newa cf.1 cf.2.1 (atype := .boolean) (cf.2.2.2.2 _ q1039) (ty := .boolean) rfl hK hP hD hS hA (a0 := (N, .inl (fun _ => 0))) (fun cA => rfl) (nI_pos (by omega)) (nI_clamp (by omega)) (by show N * 1 ≤ _; omega) hcells hslots hdg (fun q cA H1 hK2 hP2 hD2 hS2 => ?_)
  have e1 : s.vm.findClass ("[" ++ FieldType.boolean.toString) = some cA := (hK2.2 5 (cA, .boolean) rfl).2
  have e2 : s.vm.findClass ("[" ++ FieldType.boolean.toString) = some (g.2.1 1) := (hK.2 1 (g.2.1 1, .boolean) rfl).2
  have e3 : cA = g.2.1 1 := Option.some.inj (e1.symm.trans e2)
  subst e3
  exact kk q H1 ⟨hK, by rw [flat_push]; exact hP2, by rw [flat_push]; exact hD2, hS2, hA, hG⟩
theorem s_newq {n : Int32} (t0 : Nat) {Cn : String} (ht : (tysG g)[t0]? = some (g.2.1 t0, .object Cn)) (cf : CallFix p m c cc nL s args gw own) (hw : WD g A s H locs bs) (hover : va_AO Cn s) (hlink : Cond.classLink own index Cn ∈ gw) (hn : n = nI N) (hN : Nat.ble N 100000 = true) (hcells : cells + 1 ≤ R.cells) (hslots : slots + N ≤ R.slots) (hdg : decode cc pc = .ok (.anewarray index, 3))
    (kk : ∀ (q : Nat) (H1 : Heap), WD g A s H1 locs (bs ++ [[(q, .inl (g.2.1 t0, N, .inr (.inr (.inr (.inr (fun _ => none))))))]]) → W p l e R s m args below meth c H1 locs (cells + 1) (slots + N) Q (F0 m (pc + 3) ls (.ref q :: rest))) : W p l e R s m args below meth c H locs cells slots Q (F0 m pc ls (.int n :: rest)) := by
  have hN' := Nat.le_of_ble_eq_true hN
  obtain ⟨hK, hP, hD, hS, hA, hG⟩ := hw
  subst hn
  refine va_newq cf.1 cf.2.1 cf.2.2.2.1 (cf.2.2.2.2 _ hlink) hover hK hP hD hS hA (nI_pos (by omega)) (nI_clamp (by omega)) (by omega) hcells hslots hdg (fun q cA H1 hK2 hP2 hD2 hS2 => ?_)
  obtain ⟨-, -, -, -, -, e1⟩ := (hK2.2 5 (cA, .object Cn) rfl).2
  obtain ⟨-, -, -, -, -, e2⟩ := (hK.2 t0 _ ht).2
  have e3 : cA = g.2.1 t0 := Option.some.inj (e1.symm.trans e2)
  subst e3
  exact kk q H1 ⟨hK, by rw [flat_push]; exact hP2, by rw [flat_push]; exact hD2, hS2, hA, hG⟩
theorem s_new {fs : List Value} (fb : FB ci C T N ty) (cf : CallFix p m c cc nL s args gw own) (hw : WD g A s H locs bs) (hlink : Cond.classLink own index C ∈ gw) (hinst : Cond.instantiable C N ∈ gw) (hini : Cond.initialized C ∈ gw) (hfs : ∀ j, j < N → defaultValue (ty j) = vp_V fs j) (hcells : cells + 1 ≤ R.cells) (hslots : slots + N ≤ R.slots) (hdg : decode cc pc = .ok (.new index, 3))
    (kk : ∀ (q : Nat) (H1 : Heap), WD g A s H1 locs (bs ++ [[(q, .inr (ci, fs))]]) → W p l e R s m args below meth c H1 locs (cells + 1) (slots + N) Q (F0 m (pc + 3) ls (.ref q :: rest))) : W p l e R s m args below meth c H locs cells slots Q (F0 m pc ls rest) := by
  obtain ⟨hK, hP, hD, hS, hA, hG⟩ := hw
  exact va_new cf.1 cf.2.1 (Ts := gw) cf.2.2.2.2 fb.2.1 ty fb.2.2.1 cf.2.2.2.1 (cf.2.2.2.2 _ hlink) (cf.2.2.2.2 _ hinst) (cf.2.2.2.2 _ hini) hK hP hD hS hA fb.1 hfs hcells hslots hdg (fun q H1 hP2 hD2 hS2 => kk q H1 ⟨hK, by rw [flat_push]; exact hP2, by rw [flat_push]; exact hD2, hS2, hA, hG⟩)
theorem s_castA {adr : Nat} {x : vp_A} (cf : CallFix p m c cc nL s args gw own) (hw : WD g A s H locs bs) (hlink : Cond.classLink own index "[I" ∈ gw) (q0 : Nat) (hb0 : bs[q0]? = some [(adr, .inl (g.2.1 0, x))]) (hdg : decode cc pc = .ok (.checkcast index, 3))
    (kk : W p l e R s m args below meth c H locs cells slots Q (F0 m (pc + 3) ls (.ref adr :: rest))) : W p l e R s m args below meth c H locs cells slots Q (F0 m pc ls (.ref adr :: rest)) := by
  obtain ⟨q, h1, -⟩ := flat_at bs q0 hb0
  exact va_castA cf.1 cf.2.1 cf.2.2.2.1 (cf.2.2.2.2 _ hlink) hw.2.1 q h1 (hw.1.2 0 (g.2.1 0, .int) rfl).2 hdg kk
/-- a copy of the first rules -/
theorem s_clonefr (cf : CallFix p m c cc nL s args gw own) (hml : c.maxLocals = ls.size) (hw : WD g A s H locs bs) (hlink : Cond.methodLink own index ⟨"[I", "clone", "()Ljava/lang/Object;"⟩ ∈ gw) (hframes : 1 ≤ R.frames) (hlocals : (rest.map fun v => v.category).sum + 14 ≤ R.locals) (hcells : cells + 1 ≤ R.cells) (hslots : slots + 3 ≤ R.slots) (hdg : decode cc pc = .ok (.invokevirtual index, 3))
    (kk : ∀ (q : Nat) (H1 : Heap), WD g A s H1 locs (bs ++ [[(q, .inl (g.2.1 0, 3, .inl frF))]]) → W p l e R s m args below meth c H1 locs (cells + 1) (slots + 3) Q (F0 m (pc + 3) ls (.ref q :: rest))) : W p l e R s m args below meth c H locs cells slots Q (F0 m pc ls (.ref (g.2.2 0) :: rest)) := by
  obtain ⟨hK, hP, hD, hS, hA, hG⟩ := hw
  obtain ⟨cell, c1, c2, c3, c4, c5, c6⟩ := hG.2.2.2.1.2
  have hcell : H[g.2.2 0]? = some cell := by rw [hS.2.1 _ (Array.getElem?_eq_some_iff.mp c1).1 c6]; exact c1
  have hnm : s.vm.findClass "[I" = some (g.2.1 0) := (hK.2 0 (g.2.1 0, .int) rfl).2
  have hsz : cell.slots.size = 3 := by rw [c5]; exact arrV_size _ _ _
  have hcellE : ({ cls := cell.cls, slots := cell.slots } : Cell) = vp_cell (g.2.1 0) (3, .inl frF) := by rw [c2, c5]; rfl
  obtain ⟨c0, t0', f1, f2, f3⟩ := Cond.castable_spec (va_Nw.use (A := args) rfl hG.2.1)
  cases hnm.symm.trans f1
  intro X0 hT X
  have hcellT : X0.heap[g.2.2 0]? = some cell := by rw [hT]; exact hcell
  obtain ⟨-, kA, hkA, comp, hkind⟩ := State.isArrayOf_alike X.warmed.alike ((hK.2 0 (g.2.1 0, .int) rfl).1 0 (fun _ => .null))
  obtain ⟨-, kS, hkS, compS, hkindS⟩ := (hK.2 0 (g.2.1 0, .int) rfl).1 0 (fun _ => .null)
  obtain ⟨vm', X', st⟩ := X.cloneArray cf.1 cf.2.2.2.1 (cf.2.2.2.2 _ hlink) (cf.2.2.2.2 _ q147) (cf.2.2.2.2 _ q148) (cf.2.2.2.2 _ (gw_mem 149 rfl rfl)) (cf.2.2.2.2 _ q150) (a := g.2.2 0) (cell := cell) hcellT (fun k h => by rw [h] at c3; cases c3) c4 (by rw [c2]; exact hnm) f2 (by rw [c2]; exact f3)
    (fun i v hv => by
      rw [c2]
      have hk' : X0.vm.classes[g.2.1 0]? = some kA := hkA
      have hfit : fits .int v = true := by
        rw [c5] at hv
        have hv' : (arrV (g.2.1 0) 3 (fun j => .int (frF j))).slots[i]? = some v := hv
        unfold arrV at hv'
        obtain ⟨hi, e⟩ := Array.getElem?_eq_some_iff.mp hv'
        rw [Array.getElem_ofFn] at e
        subst e
        rfl
      simpa [State.fitsSlot, State.slotType?, hk', hkind] using hfit)
    (g := F0 m pc ls (.ref (g.2.2 0) :: rest)) rfl (by rw [hml]) rfl (by rw [cf.2.1]; exact hdg) hframes (by show 2 * 0 + _ + 14 ≤ _; omega) hcells (by rw [hsz]; exact hslots) (hloader := by rw [c2]; exact Vm.clonesLoader_of_array hkS hkindS)
  rw [hcellE, hsz] at X'
  generalize hH1 : H.push (vp_cell (g.2.1 0) (3, .inl frF)) = H1
  have z1 : H1.size = H.size + 1 := by rw [← hH1, Array.size_push]
  have e1 : H1[H.size]? = some (vp_cell (g.2.1 0) (3, .inl frF)) := by rw [← hH1, Array.getElem?_push_size]
  have o1 : ∀ q : Nat, q < H.size → H1[q]? = H[q]? := fun q hq => by rw [← hH1, Array.getElem?_push, if_neg (Nat.ne_of_lt hq)]
  have hk : ∀ (k : Nat) (y : Nat × va_E), bs.flatten[k]? = some y → H1[y.1]? = H[y.1]? := fun k y hy => o1 y.1 ((hP k y hy).lt)
  obtain ⟨t, b1, b2⟩ := kk H.size H1 ⟨hK, by
      rw [flat_push]
      refine (hP.kept hk).app (fun k y hy => ?_)
      have hz : k < 1 := (List.getElem?_eq_some_iff.mp hy).1
      rw [show k = 0 by omega] at hy
      cases hy
      exact e1, by rw [flat_push]; exact hD.push hP rfl (hA _ hS.1), ⟨Nat.le_trans hS.1 (by omega), fun y h1 h2 => (o1 y (Nat.lt_of_lt_of_le h1 hS.1)).trans (hS.2.1 y h1 h2), hS.2.2⟩, hA, hG⟩
    ((X0.setVm vm').pushCell (vp_cell (g.2.1 0) (3, .inl frF))) (by rw [← hH1, ← hT]; rfl) X'
  refine ⟨t, st t ?_, b2⟩
  rw [hcellE, hT]
  exact b1
end ALLOC
