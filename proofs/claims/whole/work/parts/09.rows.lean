/-! contracts over blocks: entry, end, calls, cells -/
abbrev rmx (k mc ms : Nat) : Room := { frames := k, cells := mc, slots := ms, locals := 40 * k }
def PC (g : GG) (av : List Value) (wc : BW) (sz : Nat) : Array Value → State → Prop := va_Pc av (fun U => U.heap.size = sz ∧ va_P g.1 vwCl wc.flatten U.heap ∧ va_K g.1 vwCl (tysG g) U ∧ va_D (fun _ => True) wc.flatten ∧ Gl g (va_A wc.flatten sz) U U.heap)
def Ct (l : Launch) (g : GG) (y : MethodName) (cc : ByteArray) (nL : Nat) (ret : Option FieldType) (k mc ms : Nat) (av : List Value) (wc : BW) (Q : (Nat → Prop) → Array Value → State → Outcome → State → Prop) : Prop :=
  ∀ sz : Nat, Met l y (.code y cc nL ret :: gw) (rmx k mc ms) (PC g av wc sz) (Q (va_A wc.flatten sz)) mc ms (va_A wc.flatten sz)
def BB {S : Type} (g : GG) (w1 : S → BW) (A : Nat → Prop) : S → State → Prop := fun u t => va_P g.1 vwCl (w1 u).flatten t.heap ∧ va_D A (w1 u).flatten
abbrev QI {S : Type} (g : GG) (post : Int32 → S → Prop) (w1 : S → BW) : (Nat → Prop) → Array Value → State → Outcome → State → Prop := fun A => va_Qi post (BB g w1 A) A
abbrev QV {S : Type} (g : GG) (post : S → Prop) (w1 : S → BW) : (Nat → Prop) → Array Value → State → Outcome → State → Prop := fun A => va_Qv post (BB g w1 A) A
abbrev QQ {S : Type} (g : GG) (post : Option Nat → S → Prop) (w1 : S → BW) : (Nat → Prop) → Array Value → State → Outcome → State → Prop := fun A => va_Qq post (BB g w1 A) A
set_option maxHeartbeats 1000000 in
theorem Ct.of {l : Launch} {g : GG} {y : MethodName} {cc : ByteArray} {nL : Nat} {ret : Option FieldType} {k mc ms : Nat} {av : List Value} {wc : BW} {Q : (Nat → Prop) → Array Value → State → Outcome → State → Prop} (hy : plainName y.cls = true) (hlen : Nat.ble (lg_sl av).length nL = true)
    (body : ∀ (p : Program) (e : Env) (s : State) (m : MethodId) (args : Array Value) (below : List Frame) (meth : Method) (c : Code) (A : Nat → Prop) (H : Heap) (locs : List Loc) (ls : Array Slot) (Qf : State → Prop), CallFix p m c cc nL s args gw y.cls → meth.sig.returnType = ret → meth.locks = false → meth.name = y.name → Qf = MQ below (Q A) args s mc ms A → WD g A s H locs wc → lv_has ls nL (lv_args 0 av) →
      W p l e (rmx k mc ms) s m args below meth c H locs 0 0 Qf (F0 m 0 ls [])) : Ct l g y cc nL ret k mc ms av wc Q := by
  intro sz
  refine Met.ofW (cc := cc) (maxL := nL) (ret := ret) hy rfl ?_
  intro p e s m args below meth c s₁ B hml hv
  obtain ⟨rfl, hsz, hP, hK, hD0, hG⟩ := hv
  have hts := atoms_spec (ws := .code y cc nL ret :: gw) B.pre
  have hown : s.vm.findClass y.cls = some m.cls := findClass_of_methodNamed B.named
  have hnm : meth.name = y.name := (name_of_methodNamed B.named B.method).1
  subst hsz
  have hD := hD0.self (sz := s.heap.size)
  have hl := lv_entry av (n := nL) (Nat.le_of_ble_eq_true hlen)
  rw [lg_entry_eq]
  exact body p e s m _ below meth c _ s.heap [] _ _ ⟨B.exec, B.bytes, hml, hown, fun w hw => hts w (List.mem_cons_of_mem _ hw)⟩ B.returns B.notSynchronized hnm rfl ⟨hK, hP, hD, va_S.rf, fun q h => Or.inr h, hG⟩ hl
def rok (R : Room) (k maxL cells mc slots ms : Nat) : Bool := Nat.ble (k + 1) R.frames && (Nat.ble (8 + (maxL + 11) + 40 * k) R.locals && (Nat.ble (cells + mc) R.cells && Nat.ble (slots + ms) R.slots))
theorem rok_spec {R : Room} {k maxL cells mc slots ms : Nat} (h : rok R k maxL cells mc slots ms = true) : (k + 1 ≤ R.frames ∧ 8 + (maxL + 11) + 40 * k ≤ R.locals) ∧ cells + mc ≤ R.cells ∧ slots + ms ≤ R.slots := by
  simp only [rok, Bool.and_eq_true] at h
  exact ⟨⟨Nat.le_of_ble_eq_true h.1, Nat.le_of_ble_eq_true h.2.1⟩, Nat.le_of_ble_eq_true h.2.2.1, Nat.le_of_ble_eq_true h.2.2.2⟩
theorem gw_good {y : MethodName} {bytes : ByteArray} {maxL : Nat} {ret : Option FieldType} (h : Cond.code y bytes maxL ret ∈ gw) : GoodIn gw (.code y bytes maxL ret :: gw) := by
  intro w hw
  have h1 : w ∈ gw := by
    rcases List.mem_cons.mp hw with e | e
    · rw [e]; exact h
    · exact e
  exact ⟨h1, good_of_word (List.mem_filter.mp h1).2⟩
theorem pc_blind {g : GG} {av : List Value} {wc : BW} {sz : Nat} : FrameBlind (PC g av wc sz) := by
  intro a U g' mk h
  obtain ⟨h1, h2, h3, h4, h5, h6⟩ := h
  exact ⟨h1, h2, h3, va_K.moved (u := U) (U := U.calling g' mk a) (Vm.Alike.refl U.vm) h4, h5, Gl.same (s := U) (U := U.calling g' mk a) rfl h6⟩
theorem wd_sub {g : GG} {A : Nat → Prop} {s : State} {H : Heap} {locs : List Loc} {bs wc : BW} (hw : WD g A s H locs bs) (isC : List Nat) (hn : isC.Nodup) (hC : isC.map (fun i => bs[i]?) = wc.map some) : va_P g.1 vwCl wc.flatten H ∧ va_D A wc.flatten ∧ ∀ q, va_A wc.flatten H.size q → A q := by
  obtain ⟨hK, hP, hD, hS, hA, hG⟩ := hw
  have hp := hole_perm isC bs wc hn hC
  have hP' := va_P_perm hp hP
  have hD' := va_D_iff.mp (va_D_perm hp hD)
  have h1 : va_P g.1 vwCl wc.flatten H := va_P_iff.mpr fun q hq => va_P_iff.mp hP' q (List.mem_append_left _ hq)
  have h2 : va_D A wc.flatten := by
    refine va_D_iff.mpr ⟨?_, fun q hq => hD'.2 q (List.mem_append_left _ hq)⟩
    have h := hD'.1
    rw [List.map_append] at h
    exact (List.nodup_append.mp h).1
  refine ⟨h1, h2, fun q hq => ?_⟩
  rcases hq with ⟨k, e, hk⟩ | hq
  · exact h2.2 k _ hk
  · exact hA q (Nat.le_trans hS.1 hq)
theorem pc_of {g : GG} {A : Nat → Prop} {s U : State} {H : Heap} {locs : List Loc} {bs wc : BW} {av : List Value} (hw : WD g A s H locs bs) (isC : List Nat) (hn : isC.Nodup) (hC : isC.map (fun i => bs[i]?) = wc.map some) (hU : U.heap = H) (hW : s.WarmedH U.vm) : PC g av wc H.size av.toArray U := by
  obtain ⟨h1, h2, h3⟩ := wd_sub hw isC hn hC
  obtain ⟨hK, hP, hD, hS, hA, hG⟩ := hw
  refine ⟨rfl, by rw [hU], by rw [hU]; exact h1, va_K.moved hW.alike hK, h2.weaken (fun _ _ _ _ => trivial), ?_⟩
  rw [hU]
  exact hG.warm hW (fun a ha hna => hS.2.1 a ha hna) h3
theorem wd_join {g : GG} {A : Nat → Prop} {s : State} {H H1 : Heap} {locs locs1 : List Loc} {bs wc nw : BW} (hw : WD g A s H locs bs) (isC : List Nat) (hn : isC.Nodup) (hC : isC.map (fun i => bs[i]?) = wc.map some) (hlen : isC.length = nw.length)
    (hk : ∀ q : Nat, q < H.size → ¬ va_A wc.flatten H.size q → H1[q]? = H[q]?) (hS1 : va_S A s.heap H1 locs1) (hP1 : va_P g.1 vwCl nw.flatten H1) (hD1 : va_D (va_A wc.flatten H.size) nw.flatten) : WD g A s H1 locs1 (bset bs isC nw) := by
  obtain ⟨-, h2, h3⟩ := wd_sub hw isC hn hC
  obtain ⟨hK, hP, hD, hS, hA, hG⟩ := hw
  have hp := hole_perm isC bs wc hn hC
  have hP' := va_P_iff.mp (va_P_perm hp hP)
  have hD' := va_D_iff.mp (va_D_perm hp hD)
  have hlt : ∀ i ∈ isC, i < bs.length := by
    intro i hi
    have : bs[i]? ∈ isC.map (fun i => bs[i]?) := List.mem_map.mpr ⟨i, hi, rfl⟩
    rw [hC] at this
    obtain ⟨b, -, hb⟩ := List.mem_map.mp this
    exact (List.getElem?_eq_some_iff.mp hb.symm).1
  have hp1 := bset_perm isC bs nw hn hlen hlt
  obtain ⟨n1, n2⟩ := va_D_iff.mp hD1
  have hnd := hD'.1
  rw [List.map_append, List.nodup_append] at hnd
  have hout : ∀ q ∈ (hole bs isC).flatten, q.1 < H.size ∧ ¬ va_A wc.flatten H.size q.1 := by
    intro q hq
    have hl := (hP' q (List.mem_append_right _ hq)).lt
    refine ⟨hl, fun h => ?_⟩
    rcases h with ⟨k, e, h⟩ | h
    · exact hnd.2.2 q.1 (List.mem_map.mpr ⟨(q.1, e), List.mem_of_getElem? h, rfl⟩) q.1 (List.mem_map.mpr ⟨q, hq, rfl⟩) rfl
    · omega
  refine ⟨hK, va_P_perm hp1.symm (va_P_iff.mpr fun q hq => ?_), va_D_perm hp1.symm (va_D_iff.mpr ⟨?_, fun q hq => ?_⟩), hS1, hA, hG⟩
  · rcases List.mem_append.mp hq with h | h
    · exact va_P_iff.mp hP1 q h
    · exact (hP' q (List.mem_append_right _ h)).kept (hk q.1 (hout q h).1 (hout q h).2)
  · rw [List.map_append, List.nodup_append]
    refine ⟨n1, hnd.2.1, fun a ha b hb hab => ?_⟩
    obtain ⟨x, hx, rfl⟩ := List.mem_map.mp ha
    obtain ⟨y, hy, rfl⟩ := List.mem_map.mp hb
    exact (hout y hy).2 (by rw [← hab]; exact n2 x hx)
  · rcases List.mem_append.mp hq with h | h
    · exact h3 _ (n2 q h)
    · exact hD'.2 q (List.mem_append_right _ h)
section CALLS
variable {p : Program} {l : Launch} {e : Env} {R : Room} {s : State} {m : MethodId} {args : Array Value} {below : List Frame} {meth : Method} {c : Code} {H : Heap} {locs : List Loc} {cells slots : Nat} {Q : State → Prop}
variable {g : GG} {A : Nat → Prop} {bs wc : BW} {cc bytes : ByteArray} {nL maxL k mc ms n pc index ci N : Nat} {ret : Option FieldType} {y : MethodName} {own host : String} {b : Addr} {As rest : List Value} {ls : Array Slot} {Qc : (Nat → Prop) → Array Value → State → Outcome → State → Prop} {T : u_T} {fs : List Value}
theorem run_recv (hw : WD g A s H locs bs) (q0 : Nat) (hb : bs[q0]? = some [(b, .inr (ci, fs))]) (hci : vwCl[ci]? = some (y.cls, T, N)) : ∃ cell : Cell, H[b]? = some cell ∧ cell.vm.isStatics = false ∧ s.vm.findClass y.cls = some cell.cls := by
  obtain ⟨q, h1, -⟩ := flat_at bs q0 hb
  exact va_recv hw.1 hw.2.1 hci h1
theorem run_recvB {blk : va_W} (hw : WD g A s H locs bs) (q0 : Nat) (hb : bs[q0]? = some blk) (j : Nat) (hj : blk[j]? = some (b, .inr (ci, fs))) (hci : vwCl[ci]? = some (y.cls, T, N)) : ∃ cell : Cell, H[b]? = some cell ∧ cell.vm.isStatics = false ∧ s.vm.findClass y.cls = some cell.cls := by
  have h1 : (b, Sum.inr (ci, fs)) ∈ bs.flatten := List.mem_flatten.mpr ⟨blk, List.mem_of_getElem? hb, List.mem_of_getElem? hj⟩
  obtain ⟨q, hq⟩ := List.getElem?_of_mem h1
  exact va_recv hw.1 hw.2.1 hci hq
/-- the receiver is somewhere in the callee's world -/
theorem run_recv' (hw : WD g A s H locs bs) (isC : List Nat) (hn : isC.Nodup) (hC : isC.map (fun i => bs[i]?) = wc.map some) (q0 : Nat) (hb : wc.flatten[q0]? = some (b, .inr (ci, fs))) (hci : vwCl[ci]? = some (y.cls, T, N)) : ∃ cell : Cell, H[b]? = some cell ∧ cell.vm.isStatics = false ∧ s.vm.findClass y.cls = some cell.cls :=
  va_recv hw.1 (wd_sub hw isC hn hC).1 hci hb
theorem runV (cf : CallFix p m c cc nL s args gw own) (hM : Ct l g y bytes maxL ret k mc ms (.ref b :: As) wc Qc) (hw : WD g A s H locs bs) (isC : List Nat) (hn : isC.Nodup) (hC : isC.map (fun i => bs[i]?) = wc.map some) (km : KM y bytes maxL ret n) (ki : KI y) (hlink : Cond.methodLink own index y ∈ gw)
    (hrecv : ∃ cell : Cell, H[b]? = some cell ∧ cell.vm.isStatics = false ∧ s.vm.findClass y.cls = some cell.cls) (hAs : As.length = n) (hR : rok R k maxL cells mc slots ms = true) (hls : ls.size = nL) (hst : Nat.ble (rest.map fun v => v.category).sum 8 = true) (hdg : decode cc pc = .ok (.invokevirtual index, 3)) :
    va_Run p l e R s m args below meth c H locs cells slots mc ms (F0 m pc ls (As.reverse ++ .ref b :: rest)) rest (Qc (va_A wc.flatten H.size) (Value.ref b :: As).toArray) (va_A wc.flatten H.size) := by
  obtain ⟨hr1, hr2⟩ := rok_spec hR
  have hts := cf.2.2.2.2
  exact va_runV cf (hM H.size) ⟨callB_of n hts (gw_good km.2.1) rfl rfl rfl (hts _ km.1) (hts _ hlink) km.2.2 hr1, hts _ ki.1, hts _ ki.2⟩ ⟨pc_blind, hrecv, fun U hU hW => pc_of hw isC hn hC hU hW⟩ rfl hAs hls rfl (lv_room (Nat.le_of_ble_eq_true hst)) hdg hr2
theorem runVN (cf : CallFix p m c cc nL s args gw own) (hM : Ct l g y bytes maxL ret k mc ms (.ref b :: As) wc Qc) (hw : WD g A s H locs bs) (isC : List Nat) (hn : isC.Nodup) (hC : isC.map (fun i => bs[i]?) = wc.map some) (km : KM y bytes maxL ret n) (ki : KI y) (hlink : Cond.methodLinkNest own index y host ∈ lw_tbl)
    (hrecv : ∃ cell : Cell, H[b]? = some cell ∧ cell.vm.isStatics = false ∧ s.vm.findClass y.cls = some cell.cls) (hAs : As.length = n) (hR : rok R k maxL cells mc slots ms = true) (hls : ls.size = nL) (hst : Nat.ble (rest.map fun v => v.category).sum 8 = true) (hdg : decode cc pc = .ok (.invokevirtual index, 3)) :
    va_Run p l e R s m args below meth c H locs cells slots mc ms (F0 m pc ls (As.reverse ++ .ref b :: rest)) rest (Qc (va_A wc.flatten H.size) (Value.ref b :: As).toArray) (va_A wc.flatten H.size) := by
  obtain ⟨hr1, hr2⟩ := rok_spec hR
  have hts := cf.2.2.2.2
  exact va_runVN (host := host) cf (hM H.size) ⟨va_cnB n hts (gw_good km.2.1) rfl rfl rfl (hw.2.2.2.2.2.1 _ hlink rfl) (hts _ km.1) km.2.2 hr1, hts _ ki.1, hts _ ki.2⟩ ⟨pc_blind, hrecv, fun U hU hW => pc_of hw isC hn hC hU hW⟩ rfl hAs hls rfl (lv_room (Nat.le_of_ble_eq_true hst)) hdg hr2
theorem runS (cf : CallFix p m c cc nL s args gw own) (hM : Ct l g y bytes maxL ret k mc ms As wc Qc) (hw : WD g A s H locs bs) (isC : List Nat) (hn : isC.Nodup) (hC : isC.map (fun i => bs[i]?) = wc.map some) (km : KM y bytes maxL ret n) (ks : Cond.static y ∈ gw) (hlink : Cond.methodLink own index y ∈ gw)
    (hAs : As.length = n) (hR : rok R k maxL cells mc slots ms = true) (hls : ls.size = nL) (hst : Nat.ble (rest.map fun v => v.category).sum 8 = true) (hdg : decode cc pc = .ok (.invokestatic index, 3)) :
    va_Run p l e R s m args below meth c H locs cells slots mc ms (F0 m pc ls (As.reverse ++ rest)) rest (Qc (va_A wc.flatten H.size) As.toArray) (va_A wc.flatten H.size) := by
  obtain ⟨hr1, hr2⟩ := rok_spec hR
  have hts := cf.2.2.2.2
  exact va_runS cf (hM H.size) ⟨callB_of n hts (gw_good km.2.1) rfl rfl rfl (hts _ km.1) (hts _ hlink) km.2.2 hr1, hts _ ks⟩ ⟨pc_blind, fun U hU hW => pc_of hw isC hn hC hU hW⟩ rfl hAs hls rfl (lv_room (Nat.le_of_ble_eq_true hst)) hdg hr2
theorem runSN (cf : CallFix p m c cc nL s args gw own) (hM : Ct l g y bytes maxL ret k mc ms As wc Qc) (hw : WD g A s H locs bs) (isC : List Nat) (hn : isC.Nodup) (hC : isC.map (fun i => bs[i]?) = wc.map some) (km : KM y bytes maxL ret n) (ks : Cond.static y ∈ gw) (hlink : Cond.methodLinkNest own index y host ∈ lw_tbl)
    (hAs : As.length = n) (hR : rok R k maxL cells mc slots ms = true) (hls : ls.size = nL) (hst : Nat.ble (rest.map fun v => v.category).sum 8 = true) (hdg : decode cc pc = .ok (.invokestatic index, 3)) :
    va_Run p l e R s m args below meth c H locs cells slots mc ms (F0 m pc ls (As.reverse ++ rest)) rest (Qc (va_A wc.flatten H.size) As.toArray) (va_A wc.flatten H.size) := by
  obtain ⟨hr1, hr2⟩ := rok_spec hR
  have hts := cf.2.2.2.2
  exact va_runSN (host := host) cf (hM H.size) ⟨va_cnB n hts (gw_good km.2.1) rfl rfl rfl (hw.2.2.2.2.2.1 _ hlink rfl) (hts _ km.1) km.2.2 hr1, hts _ ks, trivial⟩ ⟨pc_blind, fun U hU hW => pc_of hw isC hn hC hU hW⟩ rfl hAs hls rfl (lv_room (Nat.le_of_ble_eq_true hst)) hdg hr2
theorem runI (cf : CallFix p m c cc nL s args gw own) (hM : Ct l g y bytes maxL none k mc ms (.ref b :: As) wc Qc) (hw : WD g A s H locs bs) (isC : List Nat) (hn : isC.Nodup) (hC : isC.map (fun i => bs[i]?) = wc.map some) (km : KM y bytes maxL none n) (hy : y.name = "<init>") (ki : Cond.instanceMethod y ∈ gw) (hlink : Cond.methodLink own index y ∈ gw)
    (hAs : As.length = n) (hR : rok R k maxL cells mc slots ms = true) (hls : ls.size = nL) (hst : Nat.ble (rest.map fun v => v.category).sum 8 = true) (hdg : decode cc pc = .ok (.invokespecial index, 3)) :
    va_Run p l e R s m args below meth c H locs cells slots mc ms (F0 m pc ls (As.reverse ++ .ref b :: rest)) rest (Qc (va_A wc.flatten H.size) (Value.ref b :: As).toArray) (va_A wc.flatten H.size) := by
  obtain ⟨hr1, hr2⟩ := rok_spec hR
  have hts := cf.2.2.2.2
  exact va_runI cf (hM H.size) ⟨callB_of n hts (gw_good km.2.1) rfl rfl rfl (hts _ km.1) (hts _ hlink) km.2.2 hr1, hy, hts _ ki⟩ ⟨pc_blind, fun U hU hW => pc_of hw isC hn hC hU hW⟩ rfl hAs hls rfl (lv_room (Nat.le_of_ble_eq_true hst)) hdg hr2
theorem runIN (cf : CallFix p m c cc nL s args gw own) (hM : Ct l g y bytes maxL none k mc ms (.ref b :: As) wc Qc) (hw : WD g A s H locs bs) (isC : List Nat) (hn : isC.Nodup) (hC : isC.map (fun i => bs[i]?) = wc.map some) (km : KM y bytes maxL none n) (hy : y.name = "<init>") (ki : Cond.instanceMethod y ∈ gw) (hlink : Cond.methodLinkNest own index y host ∈ lw_tbl)
    (hAs : As.length = n) (hR : rok R k maxL cells mc slots ms = true) (hls : ls.size = nL) (hst : Nat.ble (rest.map fun v => v.category).sum 8 = true) (hdg : decode cc pc = .ok (.invokespecial index, 3)) :
    va_Run p l e R s m args below meth c H locs cells slots mc ms (F0 m pc ls (As.reverse ++ .ref b :: rest)) rest (Qc (va_A wc.flatten H.size) (Value.ref b :: As).toArray) (va_A wc.flatten H.size) := by
  obtain ⟨hr1, hr2⟩ := rok_spec hR
  have hts := cf.2.2.2.2
  exact va_runIN (host := host) cf (hM H.size) ⟨va_cnB n hts (gw_good km.2.1) rfl rfl rfl (hw.2.2.2.2.2.1 _ hlink rfl) (hts _ km.1) km.2.2 hr1, hy, hts _ ki⟩ ⟨pc_blind, fun U hU hW => pc_of hw isC hn hC hU hW⟩ rfl hAs hls rfl (lv_room (Nat.le_of_ble_eq_true hst)) hdg hr2
/-! the specials call of a private method (invokespecial is not used for them here) -/
variable {st0 : List Value} {a : Array Value}
theorem s_calli {S : Type} {post : Int32 → S → Prop} {w1 : S → BW} (hr : va_Run p l e R s m args below meth c H locs cells slots mc ms (F0 m pc ls st0) rest (QI g post w1 (va_A wc.flatten H.size) a) (va_A wc.flatten H.size)) (hw : WD g A s H locs bs) (isC : List Nat) (hn : isC.Nodup) (hC : isC.map (fun i => bs[i]?) = wc.map some) (hlen : ∀ u, isC.length = (w1 u).length)
    (kk : ∀ (r : Int32) (u : S) (H1 : Heap) (locs1 : List Loc), post r u → WD g A s H1 locs1 (bset bs isC (w1 u)) → W p l e R s m args below meth c H1 locs1 (cells + mc) (slots + ms) Q (F0 m (pc + 3) ls (.int r :: rest))) : W p l e R s m args below meth c H locs cells slots Q (F0 m pc ls st0) := by
  have h3 := (wd_sub hw isC hn hC).2.2
  refine va_calli hr hw.2.2.2.1 (fun q _ h => h3 q h) h3 (fun r u t H1 locs1 ht hvm hp hB hz hk hS => kk r u H1 locs1 hp ?_)
  exact wd_join hw isC hn hC (hlen u) hk hS (by rw [← ht]; exact hB.1) hB.2
theorem s_callv {S : Type} {post : S → Prop} {w1 : S → BW} (hr : va_Run p l e R s m args below meth c H locs cells slots mc ms (F0 m pc ls st0) rest (QV g post w1 (va_A wc.flatten H.size) a) (va_A wc.flatten H.size)) (hw : WD g A s H locs bs) (isC : List Nat) (hn : isC.Nodup) (hC : isC.map (fun i => bs[i]?) = wc.map some) (hlen : ∀ u, isC.length = (w1 u).length)
    (kk : ∀ (u : S) (H1 : Heap) (locs1 : List Loc), post u → WD g A s H1 locs1 (bset bs isC (w1 u)) → W p l e R s m args below meth c H1 locs1 (cells + mc) (slots + ms) Q (F0 m (pc + 3) ls rest)) : W p l e R s m args below meth c H locs cells slots Q (F0 m pc ls st0) := by
  have h3 := (wd_sub hw isC hn hC).2.2
  refine va_callv hr hw.2.2.2.1 (fun q _ h => h3 q h) h3 (fun u t H1 locs1 ht hvm hp hB hz hk hS => kk u H1 locs1 hp ?_)
  exact wd_join hw isC hn hC (hlen u) hk hS (by rw [← ht]; exact hB.1) hB.2
theorem s_callq {S : Type} {post : Option Nat → S → Prop} {w1 : S → BW} (hr : va_Run p l e R s m args below meth c H locs cells slots mc ms (F0 m pc ls st0) rest (QQ g post w1 (va_A wc.flatten H.size) a) (va_A wc.flatten H.size)) (hw : WD g A s H locs bs) (isC : List Nat) (hn : isC.Nodup) (hC : isC.map (fun i => bs[i]?) = wc.map some) (hlen : ∀ u, isC.length = (w1 u).length)
    (kk : ∀ (r : Option Nat) (u : S) (H1 : Heap) (locs1 : List Loc), post r u → WD g A s H1 locs1 (bset bs isC (w1 u)) → W p l e R s m args below meth c H1 locs1 (cells + mc) (slots + ms) Q (F0 m (pc + 3) ls (va_rf r :: rest))) : W p l e R s m args below meth c H locs cells slots Q (F0 m pc ls st0) := by
  have h3 := (wd_sub hw isC hn hC).2.2
  refine va_callq hr hw.2.2.2.1 (fun q _ h => h3 q h) h3 (fun r u t H1 locs1 ht hvm hp hB hz hk hS => kk r u H1 locs1 hp ?_)
  exact wd_join hw isC hn hC (hlen u) hk hS (by rw [← ht]; exact hB.1) hB.2
/-! ends -/
theorem s_iret {S : Type} {post : Int32 → S → Prop} {w1 : S → BW} {v : Int32} {own : String} (cf : CallFix p m c cc nL s args gw own) (hr : meth.sig.returnType = some .int) (hlk : meth.locks = false) (u : S) (hw : WD g A s H locs (w1 u)) (hp : post v u) (hc : cells ≤ mc) (hs : slots ≤ ms) (hdg : decode cc pc = .ok (.ireturn, 1)) :
    Q = MQ below (QI g post w1 A) args s mc ms A → W p l e R s m args below meth c H locs cells slots Q (F0 m pc ls [.int v]) :=
  fun hQ => hQ ▸ W.widen (k := mc) (n := ms) hc hs (W.iret (v := v) cf.1 cf.2.1 hr (fun t ht hW => ⟨⟨v, u, rfl, hp, by rw [ht]; exact hw.2.1, hw.2.2.1⟩, hw.2.2.2.1.F ht⟩) hw.2.2.2.1.2.2 hdg hlk)
theorem s_zret {S : Type} {post : Int32 → S → Prop} {w1 : S → BW} {v : Int32} {own : String} (cf : CallFix p m c cc nL s args gw own) (hr : meth.sig.returnType = some .boolean) (hlk : meth.locks = false) (u : S) (hw : WD g A s H locs (w1 u)) (hp : post v u) (hnr : narrow .boolean (.int v) = .int v) (hc : cells ≤ mc) (hs : slots ≤ ms) (hdg : decode cc pc = .ok (.ireturn, 1)) :
    Q = MQ below (QI g post w1 A) args s mc ms A → W p l e R s m args below meth c H locs cells slots Q (F0 m pc ls [.int v]) :=
  fun hQ => hQ ▸ W.widen (k := mc) (n := ms) hc hs (W.zret (v := v) (ty := .boolean) cf.1 cf.2.1 hr hnr (fun t ht hW => ⟨⟨v, u, rfl, hp, by rw [ht]; exact hw.2.1, hw.2.2.1⟩, hw.2.2.2.1.F ht⟩) hw.2.2.2.1.2.2 hdg hlk)
theorem s_vret {S : Type} {post : S → Prop} {w1 : S → BW} {own : String} (cf : CallFix p m c cc nL s args gw own) (hr : meth.sig.returnType = none) (hlk : meth.locks = false) (u : S) (hw : WD g A s H locs (w1 u)) (hp : post u) (hc : cells ≤ mc) (hs : slots ≤ ms) (hdg : decode cc pc = .ok (.return_, 1)) :
    Q = MQ below (QV g post w1 A) args s mc ms A → W p l e R s m args below meth c H locs cells slots Q (F0 m pc ls []) :=
  fun hQ => hQ ▸ W.widen (k := mc) (n := ms) hc hs (W.vret cf.1 cf.2.1 hr (fun t ht hW => ⟨⟨u, rfl, hp, by rw [ht]; exact hw.2.1, hw.2.2.1⟩, hw.2.2.2.1.F ht⟩) hw.2.2.2.1.2.2 hdg hlk)
theorem s_aret {S : Type} {post : Option Nat → S → Prop} {w1 : S → BW} {v : Option Nat} {own cn : String} (cf : CallFix p m c cc nL s args gw own) (hr : meth.sig.returnType = some (.object cn)) (hlk : meth.locks = false) (u : S) (hw : WD g A s H locs (w1 u)) (hp : post v u) (hc : cells ≤ mc) (hs : slots ≤ ms) (hdg : decode cc pc = .ok (.areturn, 1)) :
    Q = MQ below (QQ g post w1 A) args s mc ms A → W p l e R s m args below meth c H locs cells slots Q (F0 m pc ls [va_rf v]) :=
  fun hQ => hQ ▸ W.widen (k := mc) (n := ms) hc hs (W.aret (v := va_rf v) cf.1 cf.2.1 hr (Or.inl ⟨cn, rfl⟩) (va_rf_or v) (fun t ht hW => ⟨⟨v, u, rfl, hp, by rw [ht]; exact hw.2.1, hw.2.2.1⟩, hw.2.2.2.1.F ht⟩) hw.2.2.2.1.2.2 hdg hlk)
theorem s_aretA {S : Type} {post : Option Nat → S → Prop} {w1 : S → BW} {v : Option Nat} {own : String} {ct : FieldType} (cf : CallFix p m c cc nL s args gw own) (hr : meth.sig.returnType = some (.array ct)) (hlk : meth.locks = false) (u : S) (hw : WD g A s H locs (w1 u)) (hp : post v u) (hc : cells ≤ mc) (hs : slots ≤ ms) (hdg : decode cc pc = .ok (.areturn, 1)) :
    Q = MQ below (QQ g post w1 A) args s mc ms A → W p l e R s m args below meth c H locs cells slots Q (F0 m pc ls [va_rf v]) :=
  fun hQ => hQ ▸ W.widen (k := mc) (n := ms) hc hs (W.aret (v := va_rf v) cf.1 cf.2.1 hr (Or.inr ⟨ct, rfl⟩) (va_rf_or v) (fun t ht hW => ⟨⟨v, u, rfl, hp, by rw [ht]; exact hw.2.1, hw.2.2.1⟩, hw.2.2.2.1.F ht⟩) hw.2.2.2.1.2.2 hdg hlk)
/-! a number on top said otherwise -/
theorem lv_topr {x y : Int32} (h : x = y) (k : W p l e R s m args below meth c H locs cells slots Q (F0 m pc ls (.int y :: rest))) : W p l e R s m args below meth c H locs cells slots Q (F0 m pc ls (.int x :: rest)) := h ▸ k
theorem lv_toplr {x y : Int64} (h : x = y) (k : W p l e R s m args below meth c H locs cells slots Q (F0 m pc ls (.long y :: rest))) : W p l e R s m args below meth c H locs cells slots Q (F0 m pc ls (.long x :: rest)) := h ▸ k
theorem lv_topv {x y : Value} (h : x = y) (k : W p l e R s m args below meth c H locs cells slots Q (F0 m pc ls (y :: rest))) : W p l e R s m args below meth c H locs cells slots Q (F0 m pc ls (x :: rest)) := h ▸ k
/-! cells -/
variable {C : String} {ty : Nat → FieldType} {v : Value} {f : Nat → Int32} {j : Nat} {i x : Int32} {adr : Nat}
theorem s_get (fb : FB ci C T N ty) (cf : CallFix p m c cc nL s args gw own) (hw : WD g A s H locs bs) (q0 : Nat) (hb0 : bs[q0]? = some [(adr, .inr (ci, fs))]) (k : Nat) (hk : Nat.blt k N = true) (hlink : Cond.fieldLink own index (T k).1 (T k).2.1 (T k).2.2.1 ∈ gw) (hv : fs[k]? = some v) (hdg : decode cc pc = .ok (.getfield index, 3))
    (kk : W p l e R s m args below meth c H locs cells slots Q (F0 m (pc + 3) ls (v :: rest))) : W p l e R s m args below meth c H locs cells slots Q (F0 m pc ls (.ref adr :: rest)) := by
  obtain ⟨q, h1, -⟩ := flat_at bs q0 hb0
  exact va_get (D := g.1) cf.1 cf.2.1 cf.2.2.2.2 fb.2.1 cf.2.2.2.1 hw.1 hw.2.1 q h1 fb.1 k (Nat.le_of_ble_eq_true hk) (cf.2.2.2.2 _ hlink) (fun _ h => h) hv hdg kk
theorem s_getN (fb : FB ci C T N ty) (cf : CallFix p m c cc nL s args gw own) (hw : WD g A s H locs bs) (q0 : Nat) (hb0 : bs[q0]? = some [(adr, .inr (ci, fs))]) (k : Nat) (hk : Nat.blt k N = true) (hlink : Cond.fieldLinkNest own index (T k).1 (T k).2.1 (T k).2.2.1 host ∈ lw_tbl) (hv : fs[k]? = some v) (hdg : decode cc pc = .ok (.getfield index, 3))
    (kk : W p l e R s m args below meth c H locs cells slots Q (F0 m (pc + 3) ls (v :: rest))) : W p l e R s m args below meth c H locs cells slots Q (F0 m pc ls (.ref adr :: rest)) := by
  obtain ⟨q, h1, -⟩ := flat_at bs q0 hb0
  exact va_getN (D := g.1) cf.1 cf.2.1 cf.2.2.2.2 fb.2.1 cf.2.2.2.1 hw.1 hw.2.1 q h1 fb.1 k (Nat.le_of_ble_eq_true hk) (va_Nw.use rfl (hw.2.2.2.2.2.1 _ hlink rfl)) (fun _ h => h) hv hdg kk
theorem s_put (fb : FB ci C T N ty) (cf : CallFix p m c cc nL s args gw own) (hw : WD g A s H locs bs) (q0 : Nat) (hb0 : bs[q0]? = some [(adr, .inr (ci, fs))]) (k : Nat) (hk : Nat.blt k N = true) (hlink : Cond.fieldLink own index (T k).1 (T k).2.1 (T k).2.2.1 ∈ gw) (hfin : (T k).2.2.2 = false) (hnr : narrow (ty k) v = v) (hft : fits (ty k) v = true) (hl : Nat.blt k fs.length = true) (hdg : decode cc pc = .ok (.putfield index, 3))
    (kk : ∀ (H1 : Heap) (locs1 : List Loc), WD g A s H1 locs1 (bs.set q0 [(adr, .inr (ci, fs.set k v))]) → W p l e R s m args below meth c H1 locs1 cells slots Q (F0 m (pc + 3) ls rest)) : W p l e R s m args below meth c H locs cells slots Q (F0 m pc ls (v :: .ref adr :: rest)) := by
  obtain ⟨q, h1, h2⟩ := flat_at bs q0 hb0
  have hk' : k < N := Nat.le_of_ble_eq_true hk
  obtain ⟨hK, hP, hD, hS, hA, hG⟩ := hw
  refine va_put (D := g.1) cf.1 cf.2.1 cf.2.2.2.2 fb.2.1 ty fb.2.2.1 fb.2.2.2 cf.2.2.2.1 hK hP hD hS q h1 fb.1 k hk' (cf.2.2.2.2 _ hlink) (fun _ h => h) hfin (fb.2.2.1 k hk') hnr hft (Nat.le_of_ble_eq_true hl) hdg (fun H1 locs1 hP hD hS => kk H1 locs1 ?_)
  rw [h2] at hP hD
  exact ⟨hK, hP, hD, hS, hA, hG⟩
theorem s_putF (fb : FB ci C T N ty) (cf : CallFix p m c cc nL s args gw own) (hw : WD g A s H locs bs) (q0 : Nat) (hb0 : bs[q0]? = some [(adr, .inr (ci, fs))]) (k : Nat) (hk : Nat.blt k N = true) (hlink : Cond.fieldLink own index (T k).1 (T k).2.1 (T k).2.2.1 ∈ gw) (hfin : (T k).2.2.2 = true) (hin : meth.name = "<init>") (hT : (T k).1 = own) (hnr : narrow (ty k) v = v) (hft : fits (ty k) v = true) (hl : Nat.blt k fs.length = true) (hdg : decode cc pc = .ok (.putfield index, 3))
    (kk : ∀ (H1 : Heap) (locs1 : List Loc), WD g A s H1 locs1 (bs.set q0 [(adr, .inr (ci, fs.set k v))]) → W p l e R s m args below meth c H1 locs1 cells slots Q (F0 m (pc + 3) ls rest)) : W p l e R s m args below meth c H locs cells slots Q (F0 m pc ls (v :: .ref adr :: rest)) := by
  obtain ⟨q, h1, h2⟩ := flat_at bs q0 hb0
  have hk' : k < N := Nat.le_of_ble_eq_true hk
  obtain ⟨hK, hP, hD, hS, hA, hG⟩ := hw
  refine va_putF (D := g.1) cf.1 cf.2.1 cf.2.2.2.2 fb.2.1 ty fb.2.2.1 fb.2.2.2 cf.2.2.2.1 hK hP hD hS q h1 fb.1 k hk' (cf.2.2.2.2 _ hlink) (fun _ h => h) hfin hin hT (fb.2.2.1 k hk') hnr hft (Nat.le_of_ble_eq_true hl) hdg (fun H1 locs1 hP hD hS => kk H1 locs1 ?_)
  rw [h2] at hP hD
  exact ⟨hK, hP, hD, hS, hA, hG⟩
theorem s_putN (fb : FB ci C T N ty) (cf : CallFix p m c cc nL s args gw own) (hw : WD g A s H locs bs) (q0 : Nat) (hb0 : bs[q0]? = some [(adr, .inr (ci, fs))]) (k : Nat) (hk : Nat.blt k N = true) (hlink : Cond.fieldLinkNest own index (T k).1 (T k).2.1 (T k).2.2.1 host ∈ lw_tbl) (hfin : (T k).2.2.2 = false) (hnr : narrow (ty k) v = v) (hft : fits (ty k) v = true) (hl : Nat.blt k fs.length = true) (hdg : decode cc pc = .ok (.putfield index, 3))
    (kk : ∀ (H1 : Heap) (locs1 : List Loc), WD g A s H1 locs1 (bs.set q0 [(adr, .inr (ci, fs.set k v))]) → W p l e R s m args below meth c H1 locs1 cells slots Q (F0 m (pc + 3) ls rest)) : W p l e R s m args below meth c H locs cells slots Q (F0 m pc ls (v :: .ref adr :: rest)) := by
  obtain ⟨q, h1, h2⟩ := flat_at bs q0 hb0
  have hk' : k < N := Nat.le_of_ble_eq_true hk
  have hl2 := va_Nw.use (A := args) rfl (hw.2.2.2.2.2.1 _ hlink rfl)
  obtain ⟨hK, hP, hD, hS, hA, hG⟩ := hw
  refine va_putN (D := g.1) cf.1 cf.2.1 cf.2.2.2.2 fb.2.1 ty fb.2.2.1 fb.2.2.2 cf.2.2.2.1 hK hP hD hS q h1 fb.1 k hk' hl2 (fun _ h => h) hfin (fb.2.2.1 k hk') hnr hft (Nat.le_of_ble_eq_true hl) hdg (fun H1 locs1 hP hD hS => kk H1 locs1 ?_)
  rw [h2] at hP hD
  exact ⟨hK, hP, hD, hS, hA, hG⟩
theorem s_iald (cf : CallFix p m c cc nL s args gw own) (hw : WD g A s H locs bs) (q0 : Nat) (hb0 : bs[q0]? = some [(adr, .inl (g.2.1 0, n, .inl f))]) (hi : i = nI j) (hj : j < n) (hn : Nat.ble n 1073741824 = true) (hdg : decode cc pc = .ok (.iaload, 1))
    (kk : W p l e R s m args below meth c H locs cells slots Q (F0 m (pc + 1) ls (.int (f j) :: rest))) : W p l e R s m args below meth c H locs cells slots Q (F0 m pc ls (.int i :: .ref adr :: rest)) := by
  obtain ⟨q, h1, -⟩ := flat_at bs q0 hb0
  have hn' := Nat.le_of_ble_eq_true hn
  have hjc : (nI j).toNatClampNeg = j := nI_clamp (by omega)
  subst hi
  refine va_iald cf.1 cf.2.1 hw.1 hw.2.1 q 0 h1 rfl (vp_in_nI hj (by omega)) hdg ?_
  rw [hjc]
  exact kk
theorem s_iast (cf : CallFix p m c cc nL s args gw own) (hw : WD g A s H locs bs) (q0 : Nat) (hb0 : bs[q0]? = some [(adr, .inl (g.2.1 0, n, .inl f))]) (hi : i = nI j) (hj : j < n) (hn : Nat.ble n 1073741824 = true) (hdg : decode cc pc = .ok (.iastore, 1))
    (kk : ∀ (H1 : Heap) (locs1 : List Loc), WD g A s H1 locs1 (bs.set q0 [(adr, .inl (g.2.1 0, n, .inl (upd f j x)))]) → W p l e R s m args below meth c H1 locs1 cells slots Q (F0 m (pc + 1) ls rest)) : W p l e R s m args below meth c H locs cells slots Q (F0 m pc ls (.int x :: .int i :: .ref adr :: rest)) := by
  obtain ⟨q, h1, h2⟩ := flat_at bs q0 hb0
  have hn' := Nat.le_of_ble_eq_true hn
  have hjc : (nI j).toNatClampNeg = j := nI_clamp (by omega)
  subst hi
  obtain ⟨hK, hP, hD, hS, hA, hG⟩ := hw
  refine va_iast cf.1 cf.2.1 hK hP hD hS q 0 h1 rfl (vp_in_nI hj (by omega)) hdg (fun H1 locs1 hP hD hS => kk H1 locs1 ?_)
  rw [hjc, h2] at hP hD
  exact ⟨hK, hP, hD, hS, hA, hG⟩
theorem s_zald (cf : CallFix p m c cc nL s args gw own) (hw : WD g A s H locs bs) (q0 : Nat) (hb0 : bs[q0]? = some [(adr, .inl (g.2.1 1, n, .inl f))]) (hi : i = nI j) (hj : j < n) (hn : Nat.ble n 1073741824 = true) (hdg : decode cc pc = .ok (.baload, 1))
    (kk : W p l e R s m args below meth c H locs cells slots Q (F0 m (pc + 1) ls (.int (f j) :: rest))) : W p l e R s m args below meth c H locs cells slots Q (F0 m pc ls (.int i :: .ref adr :: rest)) := by
  obtain ⟨q, h1, -⟩ := flat_at bs q0 hb0
  have hn' := Nat.le_of_ble_eq_true hn
  have hjc : (nI j).toNatClampNeg = j := nI_clamp (by omega)
  subst hi
  refine va_zald cf.1 cf.2.1 hw.1 hw.2.1 q 1 h1 rfl (vp_in_nI hj (by omega)) hdg ?_
  rw [hjc]
  exact kk
theorem s_zast (cf : CallFix p m c cc nL s args gw own) (hw : WD g A s H locs bs) (q0 : Nat) (hb0 : bs[q0]? = some [(adr, .inl (g.2.1 1, n, .inl f))]) (hi : i = nI j) (hj : j < n) (hn : Nat.ble n 1073741824 = true) (hx : vp_nar .boolean x = x) (hdg : decode cc pc = .ok (.bastore, 1))
    (kk : ∀ (H1 : Heap) (locs1 : List Loc), WD g A s H1 locs1 (bs.set q0 [(adr, .inl (g.2.1 1, n, .inl (upd f j x)))]) → W p l e R s m args below meth c H1 locs1 cells slots Q (F0 m (pc + 1) ls rest)) : W p l e R s m args below meth c H locs cells slots Q (F0 m pc ls (.int x :: .int i :: .ref adr :: rest)) := by
  obtain ⟨q, h1, h2⟩ := flat_at bs q0 hb0
  have hn' := Nat.le_of_ble_eq_true hn
  have hjc : (nI j).toNatClampNeg = j := nI_clamp (by omega)
  subst hi
  obtain ⟨hK, hP, hD, hS, hA, hG⟩ := hw
  refine va_zast cf.1 cf.2.1 hK hP hD hS q 1 h1 rfl (vp_in_nI hj (by omega)) hdg (fun H1 locs1 hP hD hS => kk H1 locs1 ?_)
  rw [hjc, hx, h2] at hP hD
  exact ⟨hK, hP, hD, hS, hA, hG⟩
theorem s_aald {fq : Nat → Option Nat} (cf : CallFix p m c cc nL s args gw own) (hw : WD g A s H locs bs) (t0 : Nat) {cA : ClassId} {Cn : String} (ht : (tysG g)[t0]? = some (cA, .object Cn)) (q0 : Nat) (hb0 : bs[q0]? = some [(adr, .inl (cA, n, .inr (.inr (.inr (.inr fq)))))]) (hi : i = nI j) (hj : j < n) (hn : Nat.ble n 1073741824 = true) (hdg : decode cc pc = .ok (.aaload, 1))
    (kk : W p l e R s m args below meth c H locs cells slots Q (F0 m (pc + 1) ls (va_rf (fq j) :: rest))) : W p l e R s m args below meth c H locs cells slots Q (F0 m pc ls (.int i :: .ref adr :: rest)) := by
  obtain ⟨q, h1, -⟩ := flat_at bs q0 hb0
  have hn' := Nat.le_of_ble_eq_true hn
  have hjc : (nI j).toNatClampNeg = j := nI_clamp (by omega)
  subst hi
  refine va_aldq cf.1 cf.2.1 hw.1 hw.2.1 q t0 h1 ht (vp_in_nI hj (by omega)) hdg ?_
  rw [hjc]
  exact kk
theorem s_aast {fq : Nat → Option Nat} {va : Nat} {vs : List Value} {r : vw_C} (cf : CallFix p m c cc nL s args gw own) (hw : WD g A s H locs bs) (t0 : Nat) {cA : ClassId} (ht : (tysG g)[t0]? = some (cA, .object r.1)) (q0 : Nat) (hb0 : bs[q0]? = some [(adr, .inl (cA, n, .inr (.inr (.inr (.inr fq)))))]) (q1 : Nat) (hv : bs.flatten[q1]? = some (va, .inr (ci, vs))) (hci : vwCl[ci]? = some r) (hi : i = nI j) (hj : j < n) (hn : Nat.ble n 1073741824 = true) (hdg : decode cc pc = .ok (.aastore, 1))
    (kk : ∀ (H1 : Heap) (locs1 : List Loc), WD g A s H1 locs1 (bs.set q0 [(adr, .inl (cA, n, .inr (.inr (.inr (.inr (va_up fq j (some va)))))))]) → W p l e R s m args below meth c H1 locs1 cells slots Q (F0 m (pc + 1) ls rest)) : W p l e R s m args below meth c H locs cells slots Q (F0 m pc ls (.ref va :: .int i :: .ref adr :: rest)) := by
  obtain ⟨q, h1, h2⟩ := flat_at bs q0 hb0
  have hn' := Nat.le_of_ble_eq_true hn
  have hjc : (nI j).toNatClampNeg = j := nI_clamp (by omega)
  subst hi
  obtain ⟨hK, hP, hD, hS, hA, hG⟩ := hw
  refine va_astq cf.1 cf.2.1 hK hP hD hS q t0 q1 ci h1 ht hv hci (vp_in_nI hj (by omega)) hdg (fun H1 locs1 hP hD hS => kk H1 locs1 ?_)
  rw [hjc, h2] at hP hD
  exact ⟨hK, hP, hD, hS, hA, hG⟩
theorem s_alen (cf : CallFix p m c cc nL s args gw own) (hw : WD g A s H locs bs) (t0 : Nat) {cA : ClassId} {x : vp_A} {ft : FieldType} (ht : (tysG g)[t0]? = some (cA, ft)) (q0 : Nat) (hb0 : bs[q0]? = some [(adr, .inl (cA, x))]) {n32 : Int32} (hn : Int32.ofNat x.1 = n32) (hdg : decode cc pc = .ok (.arraylength, 1))
    (kk : W p l e R s m args below meth c H locs cells slots Q (F0 m (pc + 1) ls (.int n32 :: rest))) : W p l e R s m args below meth c H locs cells slots Q (F0 m pc ls (.ref adr :: rest)) := by
  obtain ⟨q, h1, -⟩ := flat_at bs q0 hb0
  exact va_alen cf.1 cf.2.1 hw.1 hw.2.1 q t0 h1 ht hn hdg kk
end CALLS
