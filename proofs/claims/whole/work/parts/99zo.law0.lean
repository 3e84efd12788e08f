def R_law : String := "CoalHolesLaw"
def lw_P (b : Addr) (xs : List Int32) (args : Array Value) (s : State) : Prop := args = #[.ref b] ∧ s.IntsAt b xs ∧ xs.length ≤ 3072 ∧ (Jvm.Cond.and given_1 narrow_1).before args s = true
def lw_Q (_ : Array Value) (s : State) (o : Outcome) (t : State) : Prop := o = .returned (some (.int 1)) ∧ Framed s o t [] 600000 7302250
def lw_Z (below : List Frame) (a : Array Value) (s : State) : State → Prop := fun t => ∃ o, t.status = .running ∧ Ended t below o ∧ lw_Q a s o t
/-- the law's own end, with 1 on the stack, nothing written that was there before, its room as the claim has it -/
theorem lw_ret {p : Program} {l : Launch} {e : Env} {s : State} {m : MethodId} {below : List Frame} {meth : Method} {c : Code} {b : Nat} (hx : p.tables.exec = Jvm.exec) (hb : c.code = code) (hr : meth.sig.returnType = ret) (hlocks : meth.locks = false) {pc : Nat} {H : Heap} {ls : Array Slot} (hdg : decode code pc = .ok (.ireturn, 1)) : W p l e room_1 s m #[Value.ref b] below meth c H [] 600000 7302250 (lw_Z below #[Value.ref b] s) (F0 m pc ls [.int 1]) := by
  intro T hT X
  obtain ⟨fs, hret, hrun, hended, hW, hframe⟩ := X.leave (v := some (.int 1)) (hlocks := hlocks) (fun h => by rw [hr] at h; cases h)
  have hmeth' : T.vm.method? m = some meth := X.method'
  refine ⟨T.setFrames fs, ?_, .returned (some (.int 1)), hrun, hended, rfl, ⟨_, rfl⟩, hW, hframe⟩
  jvm_step X.here [X.here.top, hx, hb, hdg, hmeth', hr, ret, narrow_b1]
  (try refine ⟨rfl, ?_⟩); (try refine ⟨rfl, ?_⟩)
  first | (intro acts; rw [hret _ acts rfl rfl rfl]) | rw [hret _ _ rfl rfl rfl]
  exact Steps.refl _
/-- what holds at the law's entry: the machine, the code, the tables' words (any of lw_tbl by 'hts w (by decide +kernel)'), the script of L ints xs at the cell b, what the Statement gives of the start (any of its parts by flat_of_before) -/
def lw_At (p : Program) (s : State) (m : MethodId) (meth : Method) (c : Code) (b L : Nat) (xs : Nat → Int32) : Prop :=
  p.tables.exec = Jvm.exec ∧ c.code = code ∧ meth.sig.returnType = ret ∧ c.maxLocals = 4 ∧ s.vm.findClass R_law = some m.cls ∧ (∀ w ∈ lw_tbl, w.before #[Value.ref b] s = true) ∧ va_X b L xs s s.heap ∧ b < s.heap.size ∧ meth.locks = false ∧ (Jvm.Cond.and given_1 narrow_1).before #[Value.ref b] s = true
/-! the law: both sides in one world -/
def LI (g : GG) (A : Nat → Prop) (s : State) (o t t3 t2 a : Nat) (lad ad ad3 ad2 ch rd sa pa la ra qa ma : Nat → Nat) (H : Heap) (locs : List Loc) : Prop := ∃ (d cn d3 cn3 d2 cn2 nm st_ cz sy tf ws df so sz hs kd_ st_l co he nn rs rl kd as_ ov cdf kf sf wf plm czm nu isn ap ca ar si sk ss sn sb : DD) (pl rp : Nat → DD) (tr : Nat → Option Nat) (txb : va_W) (kp w_ o_ b_ n_ p_ k_ at0 bg0 tk0 cd0 wo0 ky0 op0 nt0 wr0 bw0 : Int32) (va0 : Int64) (tp wn nt nti : Nat), WD g A s H locs ((bO t 4 (tF (lad 0) ad (d 0) (d 9) (d 5) (d 6) (d 7) (d 1) (d 8))) :: (bI g (ad 1) 10 (col d 0)) :: (bI g (ad 2) 10 (col d 1)) :: (bI g (ad 3) 10 (col d 2)) :: (bI g (ad 4) 10 (col d 3)) :: (bI g (ad 5) 10 (col d 4)) :: (bI g (ad 6) 3 (rulF d)) :: (bI g (ad 7) 3 cn) :: (bO t3 4 (tF (lad 0) ad3 (d3 0) (d3 9) (d3 5) (d3 6) (d3 7) (d3 1) (d3 8))) :: (bI g (ad3 1) 10 (col d3 0)) :: (bI g (ad3 2) 10 (col d3 1)) :: (bI g (ad3 3) 10 (col d3 2)) :: (bI g (ad3 4) 10 (col d3 3)) :: (bI g (ad3 5) 10 (col d3 4)) :: (bI g (ad3 6) 3 (rulF d3)) :: (bI g (ad3 7) 3 cn3) :: (bO t2 4 (tF (lad 0) ad2 (d2 0) (d2 9) (d2 5) (d2 6) (d2 7) (d2 1) (d2 8))) :: (bI g (ad2 1) 10 (col d2 0)) :: (bI g (ad2 2) 10 (col d2 1)) :: (bI g (ad2 3) 10 (col d2 2)) :: (bI g (ad2 4) 10 (col d2 3)) :: (bI g (ad2 5) 10 (col d2 4)) :: (bI g (ad2 6) 3 (rulF d2)) :: (bI g (ad2 7) 3 cn2) :: (bO (lad 0) 0 ([.ref (lad 1), .ref (lad 2), .ref (lad 3)])) :: (bR g 4 (lad 1) 14 tr) :: (bI g (lad 2) 6 nm) :: (bI g (lad 3) 96 st_) :: txb :: (bO o 6 (cF (lad 0) t t3 t2 ch kp (nI tp) (nI wn))) :: (bO (ch 5) 1 (rF rd w_ o_ b_ n_ p_ k_)) :: (bI g (rd 1) 96 cz) :: (bI g (rd 2) 96 sy) :: (bI g (ch 6) 96 tf) :: (bR g 2 (ch 8) 4 (fun k => some (sa k))) :: (bR g 3 (ch 9) 5 (fun k => some (la k))) :: (bI g (ch 10) 60 ws) :: (bI g (ch 12) 10 df) :: (shB g sa pa so sz pl) :: (slB g la ra qa hs kd_ st_l co he nn rs rl rp) :: [bO a 7 (mF ma kp (nI tp) at0 bg0 tk0 va0 cd0 wo0 ky0 op0 nt0 wr0 bw0 (nI wn)), bI g (ma 0) 60 d, bI g (ma 1) 60 kd, bI g (ma 2) 60 as_, bI g (ma 3) 60 ov, bI g (ma 5) 1344 cdf, bI g (ma 6) 14 kf, bI g (ma 7) 14 sf, bI g (ma 8) 14 wf, bI g (ma 9) 96 plm, bI g (ma 10) 96 tf, bI g (ma 23) 96 czm, bI g (ma 24) 4 so, bI g (ma 25) 4 sz, bI g (ma 26) 96 nu, bZ g (ma 27) 96 isn, bI g (ma 28) 10 ap, bI g (ma 29) 24 ca, bZ g (ma 30) 24 ar, bI g (ma 31) 5 hs, bI g (ma 32) 5 si, bI g (ma 33) 5 sk, bI g (ma 34) 5 ss, bI g (ma 35) 120 sn, bZ g (ma 36) 120 sb, bI g (ma 37) 60 ws]) ∧ DOK d ∧ DOK d3 ∧ DOK kd ∧ (¬ kp = 0 → kd = d3) ∧ d 9 = nI nt ∧ nt ≤ 14 ∧ kd 9 = nI nti ∧ nti ≤ nt ∧ TXI g tr txb kf sf wf cdf nt ∧ CNI cn kf nt ∧ CNI cn3 kf nti ∧ tp ≤ 96 ∧ (∀ j, 0 ≤ tf j ∧ tf j ≤ 255) ∧ wn ≤ 60 ∧ ShOK so sz pl nu isn ∧ B01 isn ∧ SlOK kd_ st_l co he nn rl rp hs si sk ss sn sb
theorem rok_law {k maxL cells mc slots ms : Nat} (hk : k ≤ 200) (hL : maxL ≤ 20) (hc : cells ≤ 2000) (hs : slots ≤ 100000) (hm : mc ≤ 100) (hms : ms ≤ 5000) : rok room_1 k maxL cells mc slots ms = true := by
  unfold rok
  rw [Bool.and_eq_true, Bool.and_eq_true, Bool.and_eq_true]
  exact ⟨Nat.ble_eq_true_of_le (show k + 1 ≤ 2048 by omega), Nat.ble_eq_true_of_le (show 8 + (maxL + 11) + 40 * k ≤ 84000 by omega), Nat.ble_eq_true_of_le (show cells + mc ≤ 600000 by omega), Nat.ble_eq_true_of_le (show slots + ms ≤ 7302250 by omega)⟩
theorem law_arg {p : Program} {l : Launch} {e : Env} {R : Room} {s : State} {m : MethodId} {args : Array Value} {below : List Frame} {meth : Method} {c : Code} {H : Heap} {locs : List Loc} {cells slots : Nat} {Q : State → Prop} {A : Nat → Prop} {b L i k a o pc : Nat} {xs : Nat → Int32} {rest : List Value} {ls : Array Slot} {kI : Int}
    (hx : p.tables.exec = Jvm.exec) (hb : c.code = cL_law) (hX : va_X b L xs s s.heap) (hbl : b < s.heap.size) (hbA : ¬ A b) (hS : va_S A s.heap H locs) (hl : lv_has ls 4 [(3, .int (nI i)), (2, .ref a), (1, .ref o), (0, .ref b)]) (hk : k ≤ 5) (hi : i + 6 ≤ L) (hL : L ≤ 3072)
    (d1 : decode cL_law pc = .ok (.aload_n 0, 1)) (d2 : decode cL_law (pc + 1) = .ok (.iload_n 3, 1)) (d3 : decode cL_law (pc + 2) = .ok (.iconst kI, 1)) (d4 : decode cL_law (pc + 3) = .ok (.iadd, 1)) (d5 : decode cL_law (pc + 4) = .ok (.iaload, 1)) (hkI : Int32.ofInt kI = nI k)
    (kk : W p l e R s m args below meth c H locs cells slots Q (F0 m (pc + 5) ls (.int (xs (i + k)) :: rest))) : W p l e R s m args below meth c H locs cells slots Q (F0 m pc ls rest) := by
  refine lv_aload_n hx hb d1 rfl (lv_at hl 3 rfl) ?_
  refine lv_iload_n hx hb d2 rfl (lv_at hl 0 rfl) ?_
  refine lv_iconst (v := nI k) hx hb d3 hkI ?_
  refine lv_iadd hx hb d4 ?_
  refine lv_topr (y := nI (i + k)) (nI_add i k) ?_
  refine va_sld hx hb hX hbl hbA hS (vp_in_nI (by omega) (by omega)) d5 ?_
  rw [nI_clamp (by omega)]
  exact kk
/-! the number of texts is kept -/
theorem n9_house {d : DD} {k st p c : Int32} : D_house d k st p c 9 = d 9 := by
  unfold D_house
  split
  · exact build_lo (by omega) (by omega)
  · rfl
theorem n9_turns {d : DD} {x k : Int32} : D_turns d x k 9 = d 9 := by
  unfold D_turns
  split
  · exact upd_ne (by omega)
  · rfl
theorem n9_set {d : DD} {x w v : Int32} : D_set d x w v 9 = d 9 := by
  unfold D_set
  split
  · exact upd_ne (by omega)
  · rfl
theorem n9_rule {d : DD} {w v : Int32} : D_rule d w v 9 = d 9 := by
  have hw2 : okRule w v → w.toNatClampNeg ≤ 2 := fun z => by
    obtain ⟨j, hj, ej⟩ := rng_nat (x := w) (m := 2) (by omega) z.1.1 z.1.2
    subst ej
    rw [nI_clamp (by omega)]
    exact hj
  unfold D_rule
  split
  · next z => exact upd_ne (by have := hw2 z; omega)
  · rfl
theorem n9_deal {d : DD} {x : Int32} : D_deal d x 9 = d 9 := by
  unfold D_deal
  split
  · exact lots_lo (by omega) (by omega) (by omega) _
  · rfl
theorem n9_seed {d : DD} {v : Int32} : upd d 8 v 9 = d 9 := upd_ne (by omega)
theorem n9_round {ft : TXC} {d : DD} : roundF ft d 9 = d 9 := roundF_lo (by omega) (by omega) (by omega)
theorem n9_load {ft : TXC} {d : DD} {x : Int32} : D_load ft d x 9 = d 9 := by
  unfold D_load
  split
  · exact deliverF_lo (by omega) (by omega)
  · rfl
theorem n9_nights {ft : TXC} {d : DD} {x : Int32} : D_nights ft d x 9 = d 9 := by
  unfold D_nights
  split
  · exact nightsF_lo (by omega) (by omega) (by omega) (by omega) (by omega) (by omega)
  · rfl
theorem n9_pour {d so sz nu isn : DD} {x : Int32} : D_pour d so sz nu isn x 9 = d 9 := by
  unfold D_pour
  split
  · split
    · rfl
    · exact pourF_lo (by omega)
  · rfl
