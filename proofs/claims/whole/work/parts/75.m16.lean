set_option maxRecDepth 100000 in
set_option maxHeartbeats 4000000 in
theorem m_term {l : Launch} {g : GG} {a : Nat} {ad : Nat → Nat} {ik ky wt : Int32} {tf : DD} {tp : Nat} (htp : tp ≤ 96) {o nn f : Nat} {N : Prop} {pc : PS → PS} (hG : ∀ q, Gn tf tp q (pc q)) (hP : SbC l g yX7_piece cX7_piece 3 (6 * f + 6) a ad ik ky wt tf tp o nn N pc) (q : PS) (cz : DD) (hcr : CR cz q.2.1) (hok : okQ tf tp q) (hN : q.2.2.2 = false → N) : Ct l g yX7_term cX7_term 2 (Option.none : Option Jvm.ClassFile.FieldType) (6 * f + 7) 0 0 [.ref a] [bO a 7 (mF ad ik (nI tp) (nI (atA tf tp q.1)) (nI (bgA tf tp q.1)) (tkA tf tp q.1) (vaA tf tp q.1) (nI q.2.1.length) (nI q.2.2.1) ky (nI o) (nI nn) (if q.2.2.2 = true then 1 else 0) (nI (bwA tf tp q.1)) wt), bI g (ad 10) 96 tf, bI g (ad 23) 96 cz] (QV g (fun (u : DD) => CR u (termG tf tp pc q).2.1) (fun u => [bO a 7 (mF ad ik (nI tp) (nI (atA tf tp (termG tf tp pc q).1)) (nI (bgA tf tp (termG tf tp pc q).1)) (tkA tf tp (termG tf tp pc q).1) (vaA tf tp (termG tf tp pc q).1) (nI (termG tf tp pc q).2.1.length) (nI (termG tf tp pc q).2.2.1) ky (nI o) (nI nn) (if (termG tf tp pc q).2.2.2 = true then 1 else 0) (nI (bwA tf tp (termG tf tp pc q).1)) wt), bI g (ad 10) 96 tf, bI g (ad 23) 96 u])) := by
  refine Ct.of (by decide) rfl ?_
  intro p e s m args below meth c A H locs ls Qf cf hr hlk hnm hQ hw hl
  have hx := cf.1
  have hb := cf.2.1
  have hml := cf.2.2.1
  have hown := cf.2.2.2.1
  have hts := cf.2.2.2.2
  have hw : WD g A s H locs [bO a 7 (mF ad ik (nI tp) (nI (atA tf tp q.1)) (nI (bgA tf tp q.1)) (tkA tf tp q.1) (vaA tf tp q.1) (nI q.2.1.length) (nI q.2.2.1) ky (nI o) (nI nn) (if q.2.2.2 = true then 1 else 0) (nI (bwA tf tp q.1)) wt), bI g (ad 10) 96 tf, bI g (ad 23) 96 cz] := hw
  have hl : lv_has ls 2 [(0, .ref a)] := hl
  refine lv_aload_n hx hb dX7_term_0 rfl (lv_at hl 0 rfl) ?_
  refine s_callv (runV cf (hP q cz hcr hok hN) hw [0, 1, 2] (by decide) rfl km_X7_piece ki_X7_piece q1308 (run_recv (ci := 7) (T := TX7) (N := 39) hw 0 rfl rfl) rfl (rok_of (by omega) (by decide) (by decide) (by decide)) hl.1 rfl dX7_term_1) hw [0, 1, 2] (by decide) rfl (fun _ => rfl) (fun u_1 H locs hp_2 hw => ?_)
  have hw : WD g A s H locs [bO a 7 (mF ad ik (nI tp) (nI (atA tf tp (pc q).1)) (nI (bgA tf tp (pc q).1)) (tkA tf tp (pc q).1) (vaA tf tp (pc q).1) (nI (pc q).2.1.length) (nI (pc q).2.2.1) ky (nI o) (nI nn) (if (pc q).2.2.2 = true then 1 else 0) (nI (bwA tf tp (pc q).1)) wt), bI g (ad 10) 96 tf, bI g (ad 23) 96 u_1] := hw
  obtain ⟨q1_, hq1_⟩ : ∃ z, z = pc q := ⟨_, rfl⟩
  have hw : WD g A s H locs [bO a 7 (mF ad ik (nI tp) (nI (atA tf tp q1_.1)) (nI (bgA tf tp q1_.1)) (tkA tf tp q1_.1) (vaA tf tp q1_.1) (nI q1_.2.1.length) (nI q1_.2.2.1) ky (nI o) (nI nn) (if q1_.2.2.2 = true then 1 else 0) (nI (bwA tf tp q1_.1)) wt), bI g (ad 10) 96 tf, bI g (ad 23) 96 u_1] := by rw [hq1_]; exact hw
  have hcq1_ : CR u_1 q1_.2.1 := by rw [hq1_]; exact hp_2
  have hkq1_ : okQ tf tp q1_ := by rw [hq1_]; exact hok.gn (hG q)
  have hbq1_ : q1_.2.2.2 = false → q.2.2.2 = false := fun z => (hG q (by rw [← hq1_]; exact z)).1
  have L4 : ∀ (fu : Nat) (qq : PS) (cz : DD), (CR cz qq.2.1) → (okQ tf tp qq) → (0 < fu) → (qq.2.2.2 = false → 96 < bgA tf tp qq.1 + fu) → (termG tf tp pc q = loopF (fun q => sgA tf tp 42 q ∨ sgA tf tp 47 q) (pc) (cdA tf tp) fu qq) → (qq.2.2.2 = false → q.2.2.2 = false) → ∀ (H : Heap) (locs : List Loc) (ls : Array Slot), WD g A s H locs [bO a 7 (mF ad ik (nI tp) (nI (atA tf tp qq.1)) (nI (bgA tf tp qq.1)) (tkA tf tp qq.1) (vaA tf tp qq.1) (nI qq.2.1.length) (nI qq.2.2.1) ky (nI o) (nI nn) (if qq.2.2.2 = true then 1 else 0) (nI (bwA tf tp qq.1)) wt), bI g (ad 10) 96 tf, bI g (ad 23) 96 cz] → lv_has ls 2 [(0, .ref a)] → W p l e (rmx (6 * f + 7) 0 0) s m args below meth c H locs 0 0 Qf (F0 m 4 ls []) := by
    intro fu
    induction fu with
    | zero => intro qq cz hcr hok hf0 hf1 hres hqn; exfalso; omega
    | succ fu ih4 =>
      intro qq cz hcr hok hf0 hf1 hres hqn H locs ls hw hl
      refine lv_aload_n hx hb dX7_term_4 rfl (lv_at hl 0 rfl) ?_
      refine lv_bipush (v := 42) hx hb dX7_term_5 (by decide) ?_
      refine s_calli (runV cf (m_isSign (ik := ik) (ky := ky) (wt := wt) (tf := tf) (tp := tp) htp (o := o) (nn := nn) qq 42) hw [0] (by decide) rfl km_X7_isSign ki_X7_isSign q1312 (run_recv (ci := 7) (T := TX7) (N := 39) hw 0 rfl rfl) rfl (rok_of (by omega) (by decide) (by decide) (by decide)) hl.1 rfl dX7_term_7) hw [0] (by decide) rfl (fun _ => rfl) (fun r_5 u_3 H locs hp_4 hw => ?_)
      have hw : WD g A s H locs [bO a 7 (mF ad ik (nI tp) (nI (atA tf tp qq.1)) (nI (bgA tf tp qq.1)) (tkA tf tp qq.1) (vaA tf tp qq.1) (nI qq.2.1.length) (nI qq.2.2.1) ky (nI o) (nI nn) (if qq.2.2.2 = true then 1 else 0) (nI (bwA tf tp qq.1)) wt), bI g (ad 10) 96 tf, bI g (ad 23) 96 cz] := hw
      subst hp_4
      refine lv_if_ne (tgt := 22) hx hb dX7_term_10 (by decide) (fun c10 => ?_) (fun c10 => ?_)
      · have c10 := b01_n c10
        have hsg := c10
        have hisq : sgA tf tp 42 qq ∨ sgA tf tp 47 qq := Or.inl c10
        refine lv_aload_n hx hb dX7_term_22 rfl (lv_at hl 0 rfl) ?_
        refine s_get (v := .long (vaA tf tp qq.1)) fb7 cf hw 0 rfl 15 rfl q936 rfl dX7_term_23 ?_
        refine lv_l2i (v := (vaA tf tp qq.1 : Int64).toInt32) hx hb dX7_term_26 rfl ?_
        refine lv_istore_n (lv' := [(1, .int ((vaA tf tp qq.1 : Int64).toInt32)), (0, .ref a)]) hx hb dX7_term_27 rfl hl (by decide) rfl (fun ls hl => ?_)
        refine lv_aload_n hx hb dX7_term_28 rfl (lv_at hl 1 rfl) ?_
        refine s_callv (runV cf (m_next (ik := ik) (ky := ky) (wt := wt) (bg0 := nI (bgA tf tp qq.1)) (tk0 := tkA tf tp qq.1) (va0 := vaA tf tp qq.1) (cd0 := nI qq.2.1.length) (wo0 := nI qq.2.2.1) (op0 := nI o) (nt0 := nI nn) (wr0 := if qq.2.2.2 = true then 1 else 0) (tf := tf) (at_ := atA tf tp qq.1) (bw := bwA tf tp qq.1) (tp := tp) htp (lxs_rng qq.1).2.1 (by have := (lxs_rng (tf := tf) (tp := tp) qq.1).2.2.1; omega)) hw [0, 1] (by decide) rfl km_X7_next ki_X7_next q1268 (run_recv (ci := 7) (T := TX7) (N := 39) hw 0 rfl rfl) rfl (rok_of (by omega) (by decide) (by decide) (by decide)) hl.1 rfl dX7_term_29) hw [0, 1] (by decide) rfl (fun _ => rfl) (fun u_6 H locs hp_7 hw => ?_)
        have hw : WD g A s H locs [bO a 7 (mF ad ik (nI tp) (nI (lexF tf tp (atA tf tp qq.1) (bwA tf tp qq.1)).2.1) (nI (lexF tf tp (atA tf tp qq.1) (bwA tf tp qq.1)).1) ((lexF tf tp (atA tf tp qq.1) (bwA tf tp qq.1)).2.2.2.1) ((lexF tf tp (atA tf tp qq.1) (bwA tf tp qq.1)).2.2.2.2) (nI qq.2.1.length) (nI qq.2.2.1) ky (nI o) (nI nn) (if qq.2.2.2 = true then 1 else 0) (nI (lexF tf tp (atA tf tp qq.1) (bwA tf tp qq.1)).2.2.1) wt), bI g (ad 10) 96 tf, bI g (ad 23) 96 cz] := hw
        have hw : WD g A s H locs [bO a 7 (mF ad ik (nI tp) (nI (atA tf tp (nxF qq).1)) (nI (bgA tf tp (nxF qq).1)) (tkA tf tp (nxF qq).1) (vaA tf tp (nxF qq).1) (nI qq.2.1.length) (nI qq.2.2.1) ky (nI o) (nI nn) (if qq.2.2.2 = true then 1 else 0) (nI (bwA tf tp (nxF qq).1)) wt), bI g (ad 10) 96 tf, bI g (ad 23) 96 cz] := by rw [nx_eq] at hw; exact hw
        have hw : WD g A s H locs [bO a 7 (mF ad ik (nI tp) (nI (atA tf tp (nxF qq).1)) (nI (bgA tf tp (nxF qq).1)) (tkA tf tp (nxF qq).1) (vaA tf tp (nxF qq).1) (nI (nxF qq).2.1.length) (nI (nxF qq).2.2.1) ky (nI o) (nI nn) (if (nxF qq).2.2.2 = true then 1 else 0) (nI (bwA tf tp (nxF qq).1)) wt), bI g (ad 10) 96 tf, bI g (ad 23) 96 cz] := hw
        refine lv_aload_n hx hb dX7_term_32 rfl (lv_at hl 1 rfl) ?_
        refine s_callv (runV cf (hP (nxF qq) cz (show CR _ qq.2.1 from hcr) (hok.nx hsg.1) (fun z => hN (hqn z))) hw [0, 1, 2] (by decide) rfl km_X7_piece ki_X7_piece q1308 (run_recv (ci := 7) (T := TX7) (N := 39) hw 0 rfl rfl) rfl (rok_of (by omega) (by decide) (by decide) (by decide)) hl.1 rfl dX7_term_33) hw [0, 1, 2] (by decide) rfl (fun _ => rfl) (fun u_8 H locs hp_9 hw => ?_)
        have hw : WD g A s H locs [bO a 7 (mF ad ik (nI tp) (nI (atA tf tp (pc (nxF qq)).1)) (nI (bgA tf tp (pc (nxF qq)).1)) (tkA tf tp (pc (nxF qq)).1) (vaA tf tp (pc (nxF qq)).1) (nI (pc (nxF qq)).2.1.length) (nI (pc (nxF qq)).2.2.1) ky (nI o) (nI nn) (if (pc (nxF qq)).2.2.2 = true then 1 else 0) (nI (bwA tf tp (pc (nxF qq)).1)) wt), bI g (ad 10) 96 tf, bI g (ad 23) 96 u_8] := hw
        obtain ⟨q2_, hq2_⟩ : ∃ z, z = pc (nxF qq) := ⟨_, rfl⟩
        have hw : WD g A s H locs [bO a 7 (mF ad ik (nI tp) (nI (atA tf tp q2_.1)) (nI (bgA tf tp q2_.1)) (tkA tf tp q2_.1) (vaA tf tp q2_.1) (nI q2_.2.1.length) (nI q2_.2.2.1) ky (nI o) (nI nn) (if q2_.2.2.2 = true then 1 else 0) (nI (bwA tf tp q2_.1)) wt), bI g (ad 10) 96 tf, bI g (ad 23) 96 u_8] := by rw [hq2_]; exact hw
        have hcq2_ : CR u_8 q2_.2.1 := by rw [hq2_]; exact hp_9
        have hgq2_ : Gn tf tp (nxF qq) q2_ := by rw [hq2_]; exact hG _
        refine lv_aload_n hx hb dX7_term_36 rfl (lv_at hl 1 rfl) ?_
        refine lv_sipush (v := 20000) hx hb dX7_term_37 (by decide) ?_
        refine lv_iload_n hx hb dX7_term_40 rfl (lv_at hl 0 rfl) ?_
        refine lv_iadd hx hb dX7_term_41 ?_
        refine s_callv (runV cf (m_lays (ik := ik) (ky := ky) (wt := wt) (tf := tf) (tp := tp) htp (o := o) (nn := nn) q2_ (cz := u_8) (rm_lt htp (hok.rm hsg.1 hgq2_)) (20000 + ((vaA tf tp qq.1 : Int64).toInt32))) hw [0, 2] (by decide) rfl km_X7_lays ki_X7_lays q1316 (run_recv (ci := 7) (T := TX7) (N := 39) hw 0 rfl rfl) rfl (rok_of (by omega) (by decide) (by decide) (by decide)) hl.1 rfl dX7_term_42) hw [0, 2] (by decide) rfl (fun _ => rfl) (fun u_10 H locs hp_11 hw => ?_)
        have hw : WD g A s H locs [bO a 7 (mF ad ik (nI tp) (nI (atA tf tp (layF (20000 + ((vaA tf tp qq.1 : Int64).toInt32)) q2_).1)) (nI (bgA tf tp (layF (20000 + ((vaA tf tp qq.1 : Int64).toInt32)) q2_).1)) (tkA tf tp (layF (20000 + ((vaA tf tp qq.1 : Int64).toInt32)) q2_).1) (vaA tf tp (layF (20000 + ((vaA tf tp qq.1 : Int64).toInt32)) q2_).1) (nI (layF (20000 + ((vaA tf tp qq.1 : Int64).toInt32)) q2_).2.1.length) (nI (layF (20000 + ((vaA tf tp qq.1 : Int64).toInt32)) q2_).2.2.1) ky (nI o) (nI nn) (if (layF (20000 + ((vaA tf tp qq.1 : Int64).toInt32)) q2_).2.2.2 = true then 1 else 0) (nI (bwA tf tp (layF (20000 + ((vaA tf tp qq.1 : Int64).toInt32)) q2_).1)) wt), bI g (ad 10) 96 tf, bI g (ad 23) 96 (if q2_.2.2.2 = true then u_8 else upd u_8 q2_.2.1.length (20000 + ((vaA tf tp qq.1 : Int64).toInt32)))] := hw
        have hcl : CR _ (layF (20000 + ((vaA tf tp qq.1 : Int64).toInt32)) q2_).2.1 := CR.lay hcq2_
        have hkl : okQ tf tp (layF (20000 + ((vaA tf tp qq.1 : Int64).toInt32)) q2_) := okQ.lay (hok.rm hsg.1 hgq2_)
        have hfl := fu_go (v := (20000 + ((vaA tf tp qq.1 : Int64).toInt32))) htp hsg.1 hsg.2.2 hgq2_ hf1
        have hbl : (layF (20000 + ((vaA tf tp qq.1 : Int64).toInt32)) q2_).2.2.2 = false → q.2.2.2 = false := fun z => hqn ((hgq2_ (lay_bad z).1).1)
        refine lv_goto (tgt := 4) hx hb dX7_term_45 (by decide) ?_
        exact ih4 (layF (20000 + ((vaA tf tp qq.1 : Int64).toInt32)) q2_) (if q2_.2.2.2 = true then u_8 else upd u_8 q2_.2.1.length (20000 + ((vaA tf tp qq.1 : Int64).toInt32))) hcl hkl hfl.1 hfl.2 (by rw [hres, loop_t hisq, show cdA tf tp qq = 20000 + (vaA tf tp qq.1).toInt32 from rfl, ← hq2_]) hbl _ _ _ hw (lv_sub hl [1] rfl)
      · have c10 := b01_z c10
        refine lv_aload_n hx hb dX7_term_13 rfl (lv_at hl 0 rfl) ?_
        refine lv_bipush (v := 47) hx hb dX7_term_14 (by decide) ?_
        refine s_calli (runV cf (m_isSign (ik := ik) (ky := ky) (wt := wt) (tf := tf) (tp := tp) htp (o := o) (nn := nn) qq 47) hw [0] (by decide) rfl km_X7_isSign ki_X7_isSign q1312 (run_recv (ci := 7) (T := TX7) (N := 39) hw 0 rfl rfl) rfl (rok_of (by omega) (by decide) (by decide) (by decide)) hl.1 rfl dX7_term_16) hw [0] (by decide) rfl (fun _ => rfl) (fun r_14 u_12 H locs hp_13 hw => ?_)
        have hw : WD g A s H locs [bO a 7 (mF ad ik (nI tp) (nI (atA tf tp qq.1)) (nI (bgA tf tp qq.1)) (tkA tf tp qq.1) (vaA tf tp qq.1) (nI qq.2.1.length) (nI qq.2.2.1) ky (nI o) (nI nn) (if qq.2.2.2 = true then 1 else 0) (nI (bwA tf tp qq.1)) wt), bI g (ad 10) 96 tf, bI g (ad 23) 96 cz] := hw
        subst hp_13
        refine lv_if_eq (tgt := 48) hx hb dX7_term_19 (by decide) (fun c19 => ?_) (fun c19 => ?_)
        · have c19 := b01_z c19
          have hno : ¬ (sgA tf tp 42 qq ∨ sgA tf tp 47 qq) := fun z => by rcases z with y | y; exact c10 y; exact c19 y
          exact s_vret cf hr hlk cz (by rw [hres, loop_f hno]; exact hw) (by rw [hres, loop_f hno]; exact hcr) (Nat.le_of_ble_eq_true rfl) (Nat.le_of_ble_eq_true rfl) dX7_term_48 hQ
        · have c19 := b01_n c19
          have hsg := c19
          have hisq : sgA tf tp 42 qq ∨ sgA tf tp 47 qq := Or.inr c19
          refine lv_aload_n hx hb dX7_term_22 rfl (lv_at hl 0 rfl) ?_
          refine s_get (v := .long (vaA tf tp qq.1)) fb7 cf hw 0 rfl 15 rfl q936 rfl dX7_term_23 ?_
          refine lv_l2i (v := (vaA tf tp qq.1 : Int64).toInt32) hx hb dX7_term_26 rfl ?_
          refine lv_istore_n (lv' := [(1, .int ((vaA tf tp qq.1 : Int64).toInt32)), (0, .ref a)]) hx hb dX7_term_27 rfl hl (by decide) rfl (fun ls hl => ?_)
          refine lv_aload_n hx hb dX7_term_28 rfl (lv_at hl 1 rfl) ?_
          refine s_callv (runV cf (m_next (ik := ik) (ky := ky) (wt := wt) (bg0 := nI (bgA tf tp qq.1)) (tk0 := tkA tf tp qq.1) (va0 := vaA tf tp qq.1) (cd0 := nI qq.2.1.length) (wo0 := nI qq.2.2.1) (op0 := nI o) (nt0 := nI nn) (wr0 := if qq.2.2.2 = true then 1 else 0) (tf := tf) (at_ := atA tf tp qq.1) (bw := bwA tf tp qq.1) (tp := tp) htp (lxs_rng qq.1).2.1 (by have := (lxs_rng (tf := tf) (tp := tp) qq.1).2.2.1; omega)) hw [0, 1] (by decide) rfl km_X7_next ki_X7_next q1268 (run_recv (ci := 7) (T := TX7) (N := 39) hw 0 rfl rfl) rfl (rok_of (by omega) (by decide) (by decide) (by decide)) hl.1 rfl dX7_term_29) hw [0, 1] (by decide) rfl (fun _ => rfl) (fun u_15 H locs hp_16 hw => ?_)
          have hw : WD g A s H locs [bO a 7 (mF ad ik (nI tp) (nI (lexF tf tp (atA tf tp qq.1) (bwA tf tp qq.1)).2.1) (nI (lexF tf tp (atA tf tp qq.1) (bwA tf tp qq.1)).1) ((lexF tf tp (atA tf tp qq.1) (bwA tf tp qq.1)).2.2.2.1) ((lexF tf tp (atA tf tp qq.1) (bwA tf tp qq.1)).2.2.2.2) (nI qq.2.1.length) (nI qq.2.2.1) ky (nI o) (nI nn) (if qq.2.2.2 = true then 1 else 0) (nI (lexF tf tp (atA tf tp qq.1) (bwA tf tp qq.1)).2.2.1) wt), bI g (ad 10) 96 tf, bI g (ad 23) 96 cz] := hw
          have hw : WD g A s H locs [bO a 7 (mF ad ik (nI tp) (nI (atA tf tp (nxF qq).1)) (nI (bgA tf tp (nxF qq).1)) (tkA tf tp (nxF qq).1) (vaA tf tp (nxF qq).1) (nI qq.2.1.length) (nI qq.2.2.1) ky (nI o) (nI nn) (if qq.2.2.2 = true then 1 else 0) (nI (bwA tf tp (nxF qq).1)) wt), bI g (ad 10) 96 tf, bI g (ad 23) 96 cz] := by rw [nx_eq] at hw; exact hw
          have hw : WD g A s H locs [bO a 7 (mF ad ik (nI tp) (nI (atA tf tp (nxF qq).1)) (nI (bgA tf tp (nxF qq).1)) (tkA tf tp (nxF qq).1) (vaA tf tp (nxF qq).1) (nI (nxF qq).2.1.length) (nI (nxF qq).2.2.1) ky (nI o) (nI nn) (if (nxF qq).2.2.2 = true then 1 else 0) (nI (bwA tf tp (nxF qq).1)) wt), bI g (ad 10) 96 tf, bI g (ad 23) 96 cz] := hw
          refine lv_aload_n hx hb dX7_term_32 rfl (lv_at hl 1 rfl) ?_
          refine s_callv (runV cf (hP (nxF qq) cz (show CR _ qq.2.1 from hcr) (hok.nx hsg.1) (fun z => hN (hqn z))) hw [0, 1, 2] (by decide) rfl km_X7_piece ki_X7_piece q1308 (run_recv (ci := 7) (T := TX7) (N := 39) hw 0 rfl rfl) rfl (rok_of (by omega) (by decide) (by decide) (by decide)) hl.1 rfl dX7_term_33) hw [0, 1, 2] (by decide) rfl (fun _ => rfl) (fun u_17 H locs hp_18 hw => ?_)
          have hw : WD g A s H locs [bO a 7 (mF ad ik (nI tp) (nI (atA tf tp (pc (nxF qq)).1)) (nI (bgA tf tp (pc (nxF qq)).1)) (tkA tf tp (pc (nxF qq)).1) (vaA tf tp (pc (nxF qq)).1) (nI (pc (nxF qq)).2.1.length) (nI (pc (nxF qq)).2.2.1) ky (nI o) (nI nn) (if (pc (nxF qq)).2.2.2 = true then 1 else 0) (nI (bwA tf tp (pc (nxF qq)).1)) wt), bI g (ad 10) 96 tf, bI g (ad 23) 96 u_17] := hw
          obtain ⟨q3_, hq3_⟩ : ∃ z, z = pc (nxF qq) := ⟨_, rfl⟩
          have hw : WD g A s H locs [bO a 7 (mF ad ik (nI tp) (nI (atA tf tp q3_.1)) (nI (bgA tf tp q3_.1)) (tkA tf tp q3_.1) (vaA tf tp q3_.1) (nI q3_.2.1.length) (nI q3_.2.2.1) ky (nI o) (nI nn) (if q3_.2.2.2 = true then 1 else 0) (nI (bwA tf tp q3_.1)) wt), bI g (ad 10) 96 tf, bI g (ad 23) 96 u_17] := by rw [hq3_]; exact hw
          have hcq3_ : CR u_17 q3_.2.1 := by rw [hq3_]; exact hp_18
          have hgq3_ : Gn tf tp (nxF qq) q3_ := by rw [hq3_]; exact hG _
          refine lv_aload_n hx hb dX7_term_36 rfl (lv_at hl 1 rfl) ?_
          refine lv_sipush (v := 20000) hx hb dX7_term_37 (by decide) ?_
          refine lv_iload_n hx hb dX7_term_40 rfl (lv_at hl 0 rfl) ?_
          refine lv_iadd hx hb dX7_term_41 ?_
          refine s_callv (runV cf (m_lays (ik := ik) (ky := ky) (wt := wt) (tf := tf) (tp := tp) htp (o := o) (nn := nn) q3_ (cz := u_17) (rm_lt htp (hok.rm hsg.1 hgq3_)) (20000 + ((vaA tf tp qq.1 : Int64).toInt32))) hw [0, 2] (by decide) rfl km_X7_lays ki_X7_lays q1316 (run_recv (ci := 7) (T := TX7) (N := 39) hw 0 rfl rfl) rfl (rok_of (by omega) (by decide) (by decide) (by decide)) hl.1 rfl dX7_term_42) hw [0, 2] (by decide) rfl (fun _ => rfl) (fun u_19 H locs hp_20 hw => ?_)
          have hw : WD g A s H locs [bO a 7 (mF ad ik (nI tp) (nI (atA tf tp (layF (20000 + ((vaA tf tp qq.1 : Int64).toInt32)) q3_).1)) (nI (bgA tf tp (layF (20000 + ((vaA tf tp qq.1 : Int64).toInt32)) q3_).1)) (tkA tf tp (layF (20000 + ((vaA tf tp qq.1 : Int64).toInt32)) q3_).1) (vaA tf tp (layF (20000 + ((vaA tf tp qq.1 : Int64).toInt32)) q3_).1) (nI (layF (20000 + ((vaA tf tp qq.1 : Int64).toInt32)) q3_).2.1.length) (nI (layF (20000 + ((vaA tf tp qq.1 : Int64).toInt32)) q3_).2.2.1) ky (nI o) (nI nn) (if (layF (20000 + ((vaA tf tp qq.1 : Int64).toInt32)) q3_).2.2.2 = true then 1 else 0) (nI (bwA tf tp (layF (20000 + ((vaA tf tp qq.1 : Int64).toInt32)) q3_).1)) wt), bI g (ad 10) 96 tf, bI g (ad 23) 96 (if q3_.2.2.2 = true then u_17 else upd u_17 q3_.2.1.length (20000 + ((vaA tf tp qq.1 : Int64).toInt32)))] := hw
          have hcl : CR _ (layF (20000 + ((vaA tf tp qq.1 : Int64).toInt32)) q3_).2.1 := CR.lay hcq3_
          have hkl : okQ tf tp (layF (20000 + ((vaA tf tp qq.1 : Int64).toInt32)) q3_) := okQ.lay (hok.rm hsg.1 hgq3_)
          have hfl := fu_go (v := (20000 + ((vaA tf tp qq.1 : Int64).toInt32))) htp hsg.1 hsg.2.2 hgq3_ hf1
          have hbl : (layF (20000 + ((vaA tf tp qq.1 : Int64).toInt32)) q3_).2.2.2 = false → q.2.2.2 = false := fun z => hqn ((hgq3_ (lay_bad z).1).1)
          refine lv_goto (tgt := 4) hx hb dX7_term_45 (by decide) ?_
          exact ih4 (layF (20000 + ((vaA tf tp qq.1 : Int64).toInt32)) q3_) (if q3_.2.2.2 = true then u_17 else upd u_17 q3_.2.1.length (20000 + ((vaA tf tp qq.1 : Int64).toInt32))) hcl hkl hfl.1 hfl.2 (by rw [hres, loop_t hisq, show cdA tf tp qq = 20000 + (vaA tf tp qq.1).toInt32 from rfl, ← hq3_]) hbl _ _ _ hw (lv_sub hl [1] rfl)
  exact L4 100 q1_ u_1 hcq1_ hkq1_ (by omega) (fun _ => by omega) (by rw [hq1_]; rfl) hbq1_ _ _ _ hw (lv_sub hl [0] rfl)
set_option maxRecDepth 100000 in
set_option maxHeartbeats 4000000 in
theorem m_sum {l : Launch} {g : GG} {a : Nat} {ad : Nat → Nat} {ik ky wt : Int32} {tf : DD} {tp : Nat} (htp : tp ≤ 96) {o nn f : Nat} {N : Prop} {pc : PS → PS} (hG : ∀ q, Gn tf tp q (termG tf tp pc q)) (hP : SbC l g yX7_term cX7_term 2 (6 * f + 7) a ad ik ky wt tf tp o nn N (termG tf tp pc)) (q : PS) (cz : DD) (hcr : CR cz q.2.1) (hok : okQ tf tp q) (hN : q.2.2.2 = false → N) : Ct l g yX7_sum cX7_sum 2 (Option.none : Option Jvm.ClassFile.FieldType) (6 * f + 8) 0 0 [.ref a] [bO a 7 (mF ad ik (nI tp) (nI (atA tf tp q.1)) (nI (bgA tf tp q.1)) (tkA tf tp q.1) (vaA tf tp q.1) (nI q.2.1.length) (nI q.2.2.1) ky (nI o) (nI nn) (if q.2.2.2 = true then 1 else 0) (nI (bwA tf tp q.1)) wt), bI g (ad 10) 96 tf, bI g (ad 23) 96 cz] (QV g (fun (u : DD) => CR u (sumG tf tp pc q).2.1) (fun u => [bO a 7 (mF ad ik (nI tp) (nI (atA tf tp (sumG tf tp pc q).1)) (nI (bgA tf tp (sumG tf tp pc q).1)) (tkA tf tp (sumG tf tp pc q).1) (vaA tf tp (sumG tf tp pc q).1) (nI (sumG tf tp pc q).2.1.length) (nI (sumG tf tp pc q).2.2.1) ky (nI o) (nI nn) (if (sumG tf tp pc q).2.2.2 = true then 1 else 0) (nI (bwA tf tp (sumG tf tp pc q).1)) wt), bI g (ad 10) 96 tf, bI g (ad 23) 96 u])) := by
  refine Ct.of (by decide) rfl ?_
  intro p e s m args below meth c A H locs ls Qf cf hr hlk hnm hQ hw hl
  have hx := cf.1
  have hb := cf.2.1
  have hml := cf.2.2.1
  have hown := cf.2.2.2.1
  have hts := cf.2.2.2.2
  have hw : WD g A s H locs [bO a 7 (mF ad ik (nI tp) (nI (atA tf tp q.1)) (nI (bgA tf tp q.1)) (tkA tf tp q.1) (vaA tf tp q.1) (nI q.2.1.length) (nI q.2.2.1) ky (nI o) (nI nn) (if q.2.2.2 = true then 1 else 0) (nI (bwA tf tp q.1)) wt), bI g (ad 10) 96 tf, bI g (ad 23) 96 cz] := hw
  have hl : lv_has ls 2 [(0, .ref a)] := hl
  refine lv_aload_n hx hb dX7_sum_0 rfl (lv_at hl 0 rfl) ?_
  refine s_callv (runV cf (hP q cz hcr hok hN) hw [0, 1, 2] (by decide) rfl km_X7_term ki_X7_term q1304 (run_recv (ci := 7) (T := TX7) (N := 39) hw 0 rfl rfl) rfl (rok_of (by omega) (by decide) (by decide) (by decide)) hl.1 rfl dX7_sum_1) hw [0, 1, 2] (by decide) rfl (fun _ => rfl) (fun u_1 H locs hp_2 hw => ?_)
  have hw : WD g A s H locs [bO a 7 (mF ad ik (nI tp) (nI (atA tf tp (termG tf tp pc q).1)) (nI (bgA tf tp (termG tf tp pc q).1)) (tkA tf tp (termG tf tp pc q).1) (vaA tf tp (termG tf tp pc q).1) (nI (termG tf tp pc q).2.1.length) (nI (termG tf tp pc q).2.2.1) ky (nI o) (nI nn) (if (termG tf tp pc q).2.2.2 = true then 1 else 0) (nI (bwA tf tp (termG tf tp pc q).1)) wt), bI g (ad 10) 96 tf, bI g (ad 23) 96 u_1] := hw
  obtain ⟨q1_, hq1_⟩ : ∃ z, z = termG tf tp pc q := ⟨_, rfl⟩
  have hw : WD g A s H locs [bO a 7 (mF ad ik (nI tp) (nI (atA tf tp q1_.1)) (nI (bgA tf tp q1_.1)) (tkA tf tp q1_.1) (vaA tf tp q1_.1) (nI q1_.2.1.length) (nI q1_.2.2.1) ky (nI o) (nI nn) (if q1_.2.2.2 = true then 1 else 0) (nI (bwA tf tp q1_.1)) wt), bI g (ad 10) 96 tf, bI g (ad 23) 96 u_1] := by rw [hq1_]; exact hw
  have hcq1_ : CR u_1 q1_.2.1 := by rw [hq1_]; exact hp_2
  have hkq1_ : okQ tf tp q1_ := by rw [hq1_]; exact hok.gn (hG q)
  have hbq1_ : q1_.2.2.2 = false → q.2.2.2 = false := fun z => (hG q (by rw [← hq1_]; exact z)).1
  have L4 : ∀ (fu : Nat) (qq : PS) (cz : DD), (CR cz qq.2.1) → (okQ tf tp qq) → (0 < fu) → (qq.2.2.2 = false → 96 < bgA tf tp qq.1 + fu) → (sumG tf tp pc q = loopF (fun q => sgA tf tp 43 q ∨ sgA tf tp 45 q) (termG tf tp pc) (cdA tf tp) fu qq) → (qq.2.2.2 = false → q.2.2.2 = false) → ∀ (H : Heap) (locs : List Loc) (ls : Array Slot), WD g A s H locs [bO a 7 (mF ad ik (nI tp) (nI (atA tf tp qq.1)) (nI (bgA tf tp qq.1)) (tkA tf tp qq.1) (vaA tf tp qq.1) (nI qq.2.1.length) (nI qq.2.2.1) ky (nI o) (nI nn) (if qq.2.2.2 = true then 1 else 0) (nI (bwA tf tp qq.1)) wt), bI g (ad 10) 96 tf, bI g (ad 23) 96 cz] → lv_has ls 2 [(0, .ref a)] → W p l e (rmx (6 * f + 8) 0 0) s m args below meth c H locs 0 0 Qf (F0 m 4 ls []) := by
    intro fu
    induction fu with
    | zero => intro qq cz hcr hok hf0 hf1 hres hqn; exfalso; omega
    | succ fu ih4 =>
      intro qq cz hcr hok hf0 hf1 hres hqn H locs ls hw hl
      refine lv_aload_n hx hb dX7_sum_4 rfl (lv_at hl 0 rfl) ?_
      refine lv_bipush (v := 43) hx hb dX7_sum_5 (by decide) ?_
      refine s_calli (runV cf (m_isSign (ik := ik) (ky := ky) (wt := wt) (tf := tf) (tp := tp) htp (o := o) (nn := nn) qq 43) hw [0] (by decide) rfl km_X7_isSign ki_X7_isSign q1312 (run_recv (ci := 7) (T := TX7) (N := 39) hw 0 rfl rfl) rfl (rok_of (by omega) (by decide) (by decide) (by decide)) hl.1 rfl dX7_sum_7) hw [0] (by decide) rfl (fun _ => rfl) (fun r_5 u_3 H locs hp_4 hw => ?_)
      have hw : WD g A s H locs [bO a 7 (mF ad ik (nI tp) (nI (atA tf tp qq.1)) (nI (bgA tf tp qq.1)) (tkA tf tp qq.1) (vaA tf tp qq.1) (nI qq.2.1.length) (nI qq.2.2.1) ky (nI o) (nI nn) (if qq.2.2.2 = true then 1 else 0) (nI (bwA tf tp qq.1)) wt), bI g (ad 10) 96 tf, bI g (ad 23) 96 cz] := hw
      subst hp_4
      refine lv_if_ne (tgt := 22) hx hb dX7_sum_10 (by decide) (fun c10 => ?_) (fun c10 => ?_)
      · have c10 := b01_n c10
        have hsg := c10
        have hisq : sgA tf tp 43 qq ∨ sgA tf tp 45 qq := Or.inl c10
        refine lv_aload_n hx hb dX7_sum_22 rfl (lv_at hl 0 rfl) ?_
        refine s_get (v := .long (vaA tf tp qq.1)) fb7 cf hw 0 rfl 15 rfl q936 rfl dX7_sum_23 ?_
        refine lv_l2i (v := (vaA tf tp qq.1 : Int64).toInt32) hx hb dX7_sum_26 rfl ?_
        refine lv_istore_n (lv' := [(1, .int ((vaA tf tp qq.1 : Int64).toInt32)), (0, .ref a)]) hx hb dX7_sum_27 rfl hl (by decide) rfl (fun ls hl => ?_)
        refine lv_aload_n hx hb dX7_sum_28 rfl (lv_at hl 1 rfl) ?_
        refine s_callv (runV cf (m_next (ik := ik) (ky := ky) (wt := wt) (bg0 := nI (bgA tf tp qq.1)) (tk0 := tkA tf tp qq.1) (va0 := vaA tf tp qq.1) (cd0 := nI qq.2.1.length) (wo0 := nI qq.2.2.1) (op0 := nI o) (nt0 := nI nn) (wr0 := if qq.2.2.2 = true then 1 else 0) (tf := tf) (at_ := atA tf tp qq.1) (bw := bwA tf tp qq.1) (tp := tp) htp (lxs_rng qq.1).2.1 (by have := (lxs_rng (tf := tf) (tp := tp) qq.1).2.2.1; omega)) hw [0, 1] (by decide) rfl km_X7_next ki_X7_next q1268 (run_recv (ci := 7) (T := TX7) (N := 39) hw 0 rfl rfl) rfl (rok_of (by omega) (by decide) (by decide) (by decide)) hl.1 rfl dX7_sum_29) hw [0, 1] (by decide) rfl (fun _ => rfl) (fun u_6 H locs hp_7 hw => ?_)
        have hw : WD g A s H locs [bO a 7 (mF ad ik (nI tp) (nI (lexF tf tp (atA tf tp qq.1) (bwA tf tp qq.1)).2.1) (nI (lexF tf tp (atA tf tp qq.1) (bwA tf tp qq.1)).1) ((lexF tf tp (atA tf tp qq.1) (bwA tf tp qq.1)).2.2.2.1) ((lexF tf tp (atA tf tp qq.1) (bwA tf tp qq.1)).2.2.2.2) (nI qq.2.1.length) (nI qq.2.2.1) ky (nI o) (nI nn) (if qq.2.2.2 = true then 1 else 0) (nI (lexF tf tp (atA tf tp qq.1) (bwA tf tp qq.1)).2.2.1) wt), bI g (ad 10) 96 tf, bI g (ad 23) 96 cz] := hw
        have hw : WD g A s H locs [bO a 7 (mF ad ik (nI tp) (nI (atA tf tp (nxF qq).1)) (nI (bgA tf tp (nxF qq).1)) (tkA tf tp (nxF qq).1) (vaA tf tp (nxF qq).1) (nI qq.2.1.length) (nI qq.2.2.1) ky (nI o) (nI nn) (if qq.2.2.2 = true then 1 else 0) (nI (bwA tf tp (nxF qq).1)) wt), bI g (ad 10) 96 tf, bI g (ad 23) 96 cz] := by rw [nx_eq] at hw; exact hw
        have hw : WD g A s H locs [bO a 7 (mF ad ik (nI tp) (nI (atA tf tp (nxF qq).1)) (nI (bgA tf tp (nxF qq).1)) (tkA tf tp (nxF qq).1) (vaA tf tp (nxF qq).1) (nI (nxF qq).2.1.length) (nI (nxF qq).2.2.1) ky (nI o) (nI nn) (if (nxF qq).2.2.2 = true then 1 else 0) (nI (bwA tf tp (nxF qq).1)) wt), bI g (ad 10) 96 tf, bI g (ad 23) 96 cz] := hw
        refine lv_aload_n hx hb dX7_sum_32 rfl (lv_at hl 1 rfl) ?_
        refine s_callv (runV cf (hP (nxF qq) cz (show CR _ qq.2.1 from hcr) (hok.nx hsg.1) (fun z => hN (hqn z))) hw [0, 1, 2] (by decide) rfl km_X7_term ki_X7_term q1304 (run_recv (ci := 7) (T := TX7) (N := 39) hw 0 rfl rfl) rfl (rok_of (by omega) (by decide) (by decide) (by decide)) hl.1 rfl dX7_sum_33) hw [0, 1, 2] (by decide) rfl (fun _ => rfl) (fun u_8 H locs hp_9 hw => ?_)
        have hw : WD g A s H locs [bO a 7 (mF ad ik (nI tp) (nI (atA tf tp (termG tf tp pc (nxF qq)).1)) (nI (bgA tf tp (termG tf tp pc (nxF qq)).1)) (tkA tf tp (termG tf tp pc (nxF qq)).1) (vaA tf tp (termG tf tp pc (nxF qq)).1) (nI (termG tf tp pc (nxF qq)).2.1.length) (nI (termG tf tp pc (nxF qq)).2.2.1) ky (nI o) (nI nn) (if (termG tf tp pc (nxF qq)).2.2.2 = true then 1 else 0) (nI (bwA tf tp (termG tf tp pc (nxF qq)).1)) wt), bI g (ad 10) 96 tf, bI g (ad 23) 96 u_8] := hw
        obtain ⟨q2_, hq2_⟩ : ∃ z, z = termG tf tp pc (nxF qq) := ⟨_, rfl⟩
        have hw : WD g A s H locs [bO a 7 (mF ad ik (nI tp) (nI (atA tf tp q2_.1)) (nI (bgA tf tp q2_.1)) (tkA tf tp q2_.1) (vaA tf tp q2_.1) (nI q2_.2.1.length) (nI q2_.2.2.1) ky (nI o) (nI nn) (if q2_.2.2.2 = true then 1 else 0) (nI (bwA tf tp q2_.1)) wt), bI g (ad 10) 96 tf, bI g (ad 23) 96 u_8] := by rw [hq2_]; exact hw
        have hcq2_ : CR u_8 q2_.2.1 := by rw [hq2_]; exact hp_9
        have hgq2_ : Gn tf tp (nxF qq) q2_ := by rw [hq2_]; exact hG _
        refine lv_aload_n hx hb dX7_sum_36 rfl (lv_at hl 1 rfl) ?_
        refine lv_sipush (v := 20000) hx hb dX7_sum_37 (by decide) ?_
        refine lv_iload_n hx hb dX7_sum_40 rfl (lv_at hl 0 rfl) ?_
        refine lv_iadd hx hb dX7_sum_41 ?_
        refine s_callv (runV cf (m_lays (ik := ik) (ky := ky) (wt := wt) (tf := tf) (tp := tp) htp (o := o) (nn := nn) q2_ (cz := u_8) (rm_lt htp (hok.rm hsg.1 hgq2_)) (20000 + ((vaA tf tp qq.1 : Int64).toInt32))) hw [0, 2] (by decide) rfl km_X7_lays ki_X7_lays q1316 (run_recv (ci := 7) (T := TX7) (N := 39) hw 0 rfl rfl) rfl (rok_of (by omega) (by decide) (by decide) (by decide)) hl.1 rfl dX7_sum_42) hw [0, 2] (by decide) rfl (fun _ => rfl) (fun u_10 H locs hp_11 hw => ?_)
        have hw : WD g A s H locs [bO a 7 (mF ad ik (nI tp) (nI (atA tf tp (layF (20000 + ((vaA tf tp qq.1 : Int64).toInt32)) q2_).1)) (nI (bgA tf tp (layF (20000 + ((vaA tf tp qq.1 : Int64).toInt32)) q2_).1)) (tkA tf tp (layF (20000 + ((vaA tf tp qq.1 : Int64).toInt32)) q2_).1) (vaA tf tp (layF (20000 + ((vaA tf tp qq.1 : Int64).toInt32)) q2_).1) (nI (layF (20000 + ((vaA tf tp qq.1 : Int64).toInt32)) q2_).2.1.length) (nI (layF (20000 + ((vaA tf tp qq.1 : Int64).toInt32)) q2_).2.2.1) ky (nI o) (nI nn) (if (layF (20000 + ((vaA tf tp qq.1 : Int64).toInt32)) q2_).2.2.2 = true then 1 else 0) (nI (bwA tf tp (layF (20000 + ((vaA tf tp qq.1 : Int64).toInt32)) q2_).1)) wt), bI g (ad 10) 96 tf, bI g (ad 23) 96 (if q2_.2.2.2 = true then u_8 else upd u_8 q2_.2.1.length (20000 + ((vaA tf tp qq.1 : Int64).toInt32)))] := hw
        have hcl : CR _ (layF (20000 + ((vaA tf tp qq.1 : Int64).toInt32)) q2_).2.1 := CR.lay hcq2_
        have hkl : okQ tf tp (layF (20000 + ((vaA tf tp qq.1 : Int64).toInt32)) q2_) := okQ.lay (hok.rm hsg.1 hgq2_)
        have hfl := fu_go (v := (20000 + ((vaA tf tp qq.1 : Int64).toInt32))) htp hsg.1 hsg.2.2 hgq2_ hf1
        have hbl : (layF (20000 + ((vaA tf tp qq.1 : Int64).toInt32)) q2_).2.2.2 = false → q.2.2.2 = false := fun z => hqn ((hgq2_ (lay_bad z).1).1)
        refine lv_goto (tgt := 4) hx hb dX7_sum_45 (by decide) ?_
        exact ih4 (layF (20000 + ((vaA tf tp qq.1 : Int64).toInt32)) q2_) (if q2_.2.2.2 = true then u_8 else upd u_8 q2_.2.1.length (20000 + ((vaA tf tp qq.1 : Int64).toInt32))) hcl hkl hfl.1 hfl.2 (by rw [hres, loop_t hisq, show cdA tf tp qq = 20000 + (vaA tf tp qq.1).toInt32 from rfl, ← hq2_]) hbl _ _ _ hw (lv_sub hl [1] rfl)
      · have c10 := b01_z c10
        refine lv_aload_n hx hb dX7_sum_13 rfl (lv_at hl 0 rfl) ?_
        refine lv_bipush (v := 45) hx hb dX7_sum_14 (by decide) ?_
        refine s_calli (runV cf (m_isSign (ik := ik) (ky := ky) (wt := wt) (tf := tf) (tp := tp) htp (o := o) (nn := nn) qq 45) hw [0] (by decide) rfl km_X7_isSign ki_X7_isSign q1312 (run_recv (ci := 7) (T := TX7) (N := 39) hw 0 rfl rfl) rfl (rok_of (by omega) (by decide) (by decide) (by decide)) hl.1 rfl dX7_sum_16) hw [0] (by decide) rfl (fun _ => rfl) (fun r_14 u_12 H locs hp_13 hw => ?_)
        have hw : WD g A s H locs [bO a 7 (mF ad ik (nI tp) (nI (atA tf tp qq.1)) (nI (bgA tf tp qq.1)) (tkA tf tp qq.1) (vaA tf tp qq.1) (nI qq.2.1.length) (nI qq.2.2.1) ky (nI o) (nI nn) (if qq.2.2.2 = true then 1 else 0) (nI (bwA tf tp qq.1)) wt), bI g (ad 10) 96 tf, bI g (ad 23) 96 cz] := hw
        subst hp_13
        refine lv_if_eq (tgt := 48) hx hb dX7_sum_19 (by decide) (fun c19 => ?_) (fun c19 => ?_)
        · have c19 := b01_z c19
          have hno : ¬ (sgA tf tp 43 qq ∨ sgA tf tp 45 qq) := fun z => by rcases z with y | y; exact c10 y; exact c19 y
          exact s_vret cf hr hlk cz (by rw [hres, loop_f hno]; exact hw) (by rw [hres, loop_f hno]; exact hcr) (Nat.le_of_ble_eq_true rfl) (Nat.le_of_ble_eq_true rfl) dX7_sum_48 hQ
        · have c19 := b01_n c19
          have hsg := c19
          have hisq : sgA tf tp 43 qq ∨ sgA tf tp 45 qq := Or.inr c19
          refine lv_aload_n hx hb dX7_sum_22 rfl (lv_at hl 0 rfl) ?_
          refine s_get (v := .long (vaA tf tp qq.1)) fb7 cf hw 0 rfl 15 rfl q936 rfl dX7_sum_23 ?_
          refine lv_l2i (v := (vaA tf tp qq.1 : Int64).toInt32) hx hb dX7_sum_26 rfl ?_
          refine lv_istore_n (lv' := [(1, .int ((vaA tf tp qq.1 : Int64).toInt32)), (0, .ref a)]) hx hb dX7_sum_27 rfl hl (by decide) rfl (fun ls hl => ?_)
          refine lv_aload_n hx hb dX7_sum_28 rfl (lv_at hl 1 rfl) ?_
          refine s_callv (runV cf (m_next (ik := ik) (ky := ky) (wt := wt) (bg0 := nI (bgA tf tp qq.1)) (tk0 := tkA tf tp qq.1) (va0 := vaA tf tp qq.1) (cd0 := nI qq.2.1.length) (wo0 := nI qq.2.2.1) (op0 := nI o) (nt0 := nI nn) (wr0 := if qq.2.2.2 = true then 1 else 0) (tf := tf) (at_ := atA tf tp qq.1) (bw := bwA tf tp qq.1) (tp := tp) htp (lxs_rng qq.1).2.1 (by have := (lxs_rng (tf := tf) (tp := tp) qq.1).2.2.1; omega)) hw [0, 1] (by decide) rfl km_X7_next ki_X7_next q1268 (run_recv (ci := 7) (T := TX7) (N := 39) hw 0 rfl rfl) rfl (rok_of (by omega) (by decide) (by decide) (by decide)) hl.1 rfl dX7_sum_29) hw [0, 1] (by decide) rfl (fun _ => rfl) (fun u_15 H locs hp_16 hw => ?_)
          have hw : WD g A s H locs [bO a 7 (mF ad ik (nI tp) (nI (lexF tf tp (atA tf tp qq.1) (bwA tf tp qq.1)).2.1) (nI (lexF tf tp (atA tf tp qq.1) (bwA tf tp qq.1)).1) ((lexF tf tp (atA tf tp qq.1) (bwA tf tp qq.1)).2.2.2.1) ((lexF tf tp (atA tf tp qq.1) (bwA tf tp qq.1)).2.2.2.2) (nI qq.2.1.length) (nI qq.2.2.1) ky (nI o) (nI nn) (if qq.2.2.2 = true then 1 else 0) (nI (lexF tf tp (atA tf tp qq.1) (bwA tf tp qq.1)).2.2.1) wt), bI g (ad 10) 96 tf, bI g (ad 23) 96 cz] := hw
          have hw : WD g A s H locs [bO a 7 (mF ad ik (nI tp) (nI (atA tf tp (nxF qq).1)) (nI (bgA tf tp (nxF qq).1)) (tkA tf tp (nxF qq).1) (vaA tf tp (nxF qq).1) (nI qq.2.1.length) (nI qq.2.2.1) ky (nI o) (nI nn) (if qq.2.2.2 = true then 1 else 0) (nI (bwA tf tp (nxF qq).1)) wt), bI g (ad 10) 96 tf, bI g (ad 23) 96 cz] := by rw [nx_eq] at hw; exact hw
          have hw : WD g A s H locs [bO a 7 (mF ad ik (nI tp) (nI (atA tf tp (nxF qq).1)) (nI (bgA tf tp (nxF qq).1)) (tkA tf tp (nxF qq).1) (vaA tf tp (nxF qq).1) (nI (nxF qq).2.1.length) (nI (nxF qq).2.2.1) ky (nI o) (nI nn) (if (nxF qq).2.2.2 = true then 1 else 0) (nI (bwA tf tp (nxF qq).1)) wt), bI g (ad 10) 96 tf, bI g (ad 23) 96 cz] := hw
          refine lv_aload_n hx hb dX7_sum_32 rfl (lv_at hl 1 rfl) ?_
          refine s_callv (runV cf (hP (nxF qq) cz (show CR _ qq.2.1 from hcr) (hok.nx hsg.1) (fun z => hN (hqn z))) hw [0, 1, 2] (by decide) rfl km_X7_term ki_X7_term q1304 (run_recv (ci := 7) (T := TX7) (N := 39) hw 0 rfl rfl) rfl (rok_of (by omega) (by decide) (by decide) (by decide)) hl.1 rfl dX7_sum_33) hw [0, 1, 2] (by decide) rfl (fun _ => rfl) (fun u_17 H locs hp_18 hw => ?_)
          have hw : WD g A s H locs [bO a 7 (mF ad ik (nI tp) (nI (atA tf tp (termG tf tp pc (nxF qq)).1)) (nI (bgA tf tp (termG tf tp pc (nxF qq)).1)) (tkA tf tp (termG tf tp pc (nxF qq)).1) (vaA tf tp (termG tf tp pc (nxF qq)).1) (nI (termG tf tp pc (nxF qq)).2.1.length) (nI (termG tf tp pc (nxF qq)).2.2.1) ky (nI o) (nI nn) (if (termG tf tp pc (nxF qq)).2.2.2 = true then 1 else 0) (nI (bwA tf tp (termG tf tp pc (nxF qq)).1)) wt), bI g (ad 10) 96 tf, bI g (ad 23) 96 u_17] := hw
          obtain ⟨q3_, hq3_⟩ : ∃ z, z = termG tf tp pc (nxF qq) := ⟨_, rfl⟩
          have hw : WD g A s H locs [bO a 7 (mF ad ik (nI tp) (nI (atA tf tp q3_.1)) (nI (bgA tf tp q3_.1)) (tkA tf tp q3_.1) (vaA tf tp q3_.1) (nI q3_.2.1.length) (nI q3_.2.2.1) ky (nI o) (nI nn) (if q3_.2.2.2 = true then 1 else 0) (nI (bwA tf tp q3_.1)) wt), bI g (ad 10) 96 tf, bI g (ad 23) 96 u_17] := by rw [hq3_]; exact hw
          have hcq3_ : CR u_17 q3_.2.1 := by rw [hq3_]; exact hp_18
          have hgq3_ : Gn tf tp (nxF qq) q3_ := by rw [hq3_]; exact hG _
          refine lv_aload_n hx hb dX7_sum_36 rfl (lv_at hl 1 rfl) ?_
          refine lv_sipush (v := 20000) hx hb dX7_sum_37 (by decide) ?_
          refine lv_iload_n hx hb dX7_sum_40 rfl (lv_at hl 0 rfl) ?_
          refine lv_iadd hx hb dX7_sum_41 ?_
          refine s_callv (runV cf (m_lays (ik := ik) (ky := ky) (wt := wt) (tf := tf) (tp := tp) htp (o := o) (nn := nn) q3_ (cz := u_17) (rm_lt htp (hok.rm hsg.1 hgq3_)) (20000 + ((vaA tf tp qq.1 : Int64).toInt32))) hw [0, 2] (by decide) rfl km_X7_lays ki_X7_lays q1316 (run_recv (ci := 7) (T := TX7) (N := 39) hw 0 rfl rfl) rfl (rok_of (by omega) (by decide) (by decide) (by decide)) hl.1 rfl dX7_sum_42) hw [0, 2] (by decide) rfl (fun _ => rfl) (fun u_19 H locs hp_20 hw => ?_)
          have hw : WD g A s H locs [bO a 7 (mF ad ik (nI tp) (nI (atA tf tp (layF (20000 + ((vaA tf tp qq.1 : Int64).toInt32)) q3_).1)) (nI (bgA tf tp (layF (20000 + ((vaA tf tp qq.1 : Int64).toInt32)) q3_).1)) (tkA tf tp (layF (20000 + ((vaA tf tp qq.1 : Int64).toInt32)) q3_).1) (vaA tf tp (layF (20000 + ((vaA tf tp qq.1 : Int64).toInt32)) q3_).1) (nI (layF (20000 + ((vaA tf tp qq.1 : Int64).toInt32)) q3_).2.1.length) (nI (layF (20000 + ((vaA tf tp qq.1 : Int64).toInt32)) q3_).2.2.1) ky (nI o) (nI nn) (if (layF (20000 + ((vaA tf tp qq.1 : Int64).toInt32)) q3_).2.2.2 = true then 1 else 0) (nI (bwA tf tp (layF (20000 + ((vaA tf tp qq.1 : Int64).toInt32)) q3_).1)) wt), bI g (ad 10) 96 tf, bI g (ad 23) 96 (if q3_.2.2.2 = true then u_17 else upd u_17 q3_.2.1.length (20000 + ((vaA tf tp qq.1 : Int64).toInt32)))] := hw
          have hcl : CR _ (layF (20000 + ((vaA tf tp qq.1 : Int64).toInt32)) q3_).2.1 := CR.lay hcq3_
          have hkl : okQ tf tp (layF (20000 + ((vaA tf tp qq.1 : Int64).toInt32)) q3_) := okQ.lay (hok.rm hsg.1 hgq3_)
          have hfl := fu_go (v := (20000 + ((vaA tf tp qq.1 : Int64).toInt32))) htp hsg.1 hsg.2.2 hgq3_ hf1
          have hbl : (layF (20000 + ((vaA tf tp qq.1 : Int64).toInt32)) q3_).2.2.2 = false → q.2.2.2 = false := fun z => hqn ((hgq3_ (lay_bad z).1).1)
          refine lv_goto (tgt := 4) hx hb dX7_sum_45 (by decide) ?_
          exact ih4 (layF (20000 + ((vaA tf tp qq.1 : Int64).toInt32)) q3_) (if q3_.2.2.2 = true then u_17 else upd u_17 q3_.2.1.length (20000 + ((vaA tf tp qq.1 : Int64).toInt32))) hcl hkl hfl.1 hfl.2 (by rw [hres, loop_t hisq, show cdA tf tp qq = 20000 + (vaA tf tp qq.1).toInt32 from rfl, ← hq3_]) hbl _ _ _ hw (lv_sub hl [1] rfl)
  exact L4 100 q1_ u_1 hcq1_ hkq1_ (by omega) (fun _ => by omega) (by rw [hq1_]; rfl) hbq1_ _ _ _ hw (lv_sub hl [0] rfl)
set_option maxRecDepth 100000 in
set_option maxHeartbeats 4000000 in
theorem m_both {l : Launch} {g : GG} {a : Nat} {ad : Nat → Nat} {ik ky wt : Int32} {tf : DD} {tp : Nat} (htp : tp ≤ 96) {o nn f : Nat} {N : Prop} {pc : PS → PS} (hG : ∀ q, Gn tf tp q (testG tf tp pc q)) (hP : SbC l g yX7_test cX7_test 2 (6 * f + 9) a ad ik ky wt tf tp o nn N (testG tf tp pc)) (q : PS) (cz : DD) (hcr : CR cz q.2.1) (hok : okQ tf tp q) (hN : q.2.2.2 = false → N) : Ct l g yX7_both cX7_both 1 (Option.none : Option Jvm.ClassFile.FieldType) (6 * f + 10) 0 0 [.ref a] [bO a 7 (mF ad ik (nI tp) (nI (atA tf tp q.1)) (nI (bgA tf tp q.1)) (tkA tf tp q.1) (vaA tf tp q.1) (nI q.2.1.length) (nI q.2.2.1) ky (nI o) (nI nn) (if q.2.2.2 = true then 1 else 0) (nI (bwA tf tp q.1)) wt), bI g (ad 10) 96 tf, bI g (ad 23) 96 cz] (QV g (fun (u : DD) => CR u (bothG tf tp pc q).2.1) (fun u => [bO a 7 (mF ad ik (nI tp) (nI (atA tf tp (bothG tf tp pc q).1)) (nI (bgA tf tp (bothG tf tp pc q).1)) (tkA tf tp (bothG tf tp pc q).1) (vaA tf tp (bothG tf tp pc q).1) (nI (bothG tf tp pc q).2.1.length) (nI (bothG tf tp pc q).2.2.1) ky (nI o) (nI nn) (if (bothG tf tp pc q).2.2.2 = true then 1 else 0) (nI (bwA tf tp (bothG tf tp pc q).1)) wt), bI g (ad 10) 96 tf, bI g (ad 23) 96 u])) := by
  refine Ct.of (by decide) rfl ?_
  intro p e s m args below meth c A H locs ls Qf cf hr hlk hnm hQ hw hl
  have hx := cf.1
  have hb := cf.2.1
  have hml := cf.2.2.1
  have hown := cf.2.2.2.1
  have hts := cf.2.2.2.2
  have hw : WD g A s H locs [bO a 7 (mF ad ik (nI tp) (nI (atA tf tp q.1)) (nI (bgA tf tp q.1)) (tkA tf tp q.1) (vaA tf tp q.1) (nI q.2.1.length) (nI q.2.2.1) ky (nI o) (nI nn) (if q.2.2.2 = true then 1 else 0) (nI (bwA tf tp q.1)) wt), bI g (ad 10) 96 tf, bI g (ad 23) 96 cz] := hw
  have hl : lv_has ls 1 [(0, .ref a)] := hl
  refine lv_aload_n hx hb dX7_both_0 rfl (lv_at hl 0 rfl) ?_
  refine s_callv (runV cf (hP q cz hcr hok hN) hw [0, 1, 2] (by decide) rfl km_X7_test ki_X7_test q1296 (run_recv (ci := 7) (T := TX7) (N := 39) hw 0 rfl rfl) rfl (rok_of (by omega) (by decide) (by decide) (by decide)) hl.1 rfl dX7_both_1) hw [0, 1, 2] (by decide) rfl (fun _ => rfl) (fun u_1 H locs hp_2 hw => ?_)
  have hw : WD g A s H locs [bO a 7 (mF ad ik (nI tp) (nI (atA tf tp (testG tf tp pc q).1)) (nI (bgA tf tp (testG tf tp pc q).1)) (tkA tf tp (testG tf tp pc q).1) (vaA tf tp (testG tf tp pc q).1) (nI (testG tf tp pc q).2.1.length) (nI (testG tf tp pc q).2.2.1) ky (nI o) (nI nn) (if (testG tf tp pc q).2.2.2 = true then 1 else 0) (nI (bwA tf tp (testG tf tp pc q).1)) wt), bI g (ad 10) 96 tf, bI g (ad 23) 96 u_1] := hw
  obtain ⟨q1_, hq1_⟩ : ∃ z, z = testG tf tp pc q := ⟨_, rfl⟩
  have hw : WD g A s H locs [bO a 7 (mF ad ik (nI tp) (nI (atA tf tp q1_.1)) (nI (bgA tf tp q1_.1)) (tkA tf tp q1_.1) (vaA tf tp q1_.1) (nI q1_.2.1.length) (nI q1_.2.2.1) ky (nI o) (nI nn) (if q1_.2.2.2 = true then 1 else 0) (nI (bwA tf tp q1_.1)) wt), bI g (ad 10) 96 tf, bI g (ad 23) 96 u_1] := by rw [hq1_]; exact hw
  have hcq1_ : CR u_1 q1_.2.1 := by rw [hq1_]; exact hp_2
  have hkq1_ : okQ tf tp q1_ := by rw [hq1_]; exact hok.gn (hG q)
  have hbq1_ : q1_.2.2.2 = false → q.2.2.2 = false := fun z => (hG q (by rw [← hq1_]; exact z)).1
  have L4 : ∀ (fu : Nat) (qq : PS) (cz : DD), (CR cz qq.2.1) → (okQ tf tp qq) → (0 < fu) → (qq.2.2.2 = false → 96 < bgA tf tp qq.1 + fu) → (bothG tf tp pc q = loopF (fun q => sgA tf tp 38 q) (testG tf tp pc) (cdA tf tp) fu qq) → (qq.2.2.2 = false → q.2.2.2 = false) → ∀ (H : Heap) (locs : List Loc) (ls : Array Slot), WD g A s H locs [bO a 7 (mF ad ik (nI tp) (nI (atA tf tp qq.1)) (nI (bgA tf tp qq.1)) (tkA tf tp qq.1) (vaA tf tp qq.1) (nI qq.2.1.length) (nI qq.2.2.1) ky (nI o) (nI nn) (if qq.2.2.2 = true then 1 else 0) (nI (bwA tf tp qq.1)) wt), bI g (ad 10) 96 tf, bI g (ad 23) 96 cz] → lv_has ls 1 [(0, .ref a)] → W p l e (rmx (6 * f + 10) 0 0) s m args below meth c H locs 0 0 Qf (F0 m 4 ls []) := by
    intro fu
    induction fu with
    | zero => intro qq cz hcr hok hf0 hf1 hres hqn; exfalso; omega
    | succ fu ih4 =>
      intro qq cz hcr hok hf0 hf1 hres hqn H locs ls hw hl
      refine lv_aload_n hx hb dX7_both_4 rfl (lv_at hl 0 rfl) ?_
      refine lv_bipush (v := 38) hx hb dX7_both_5 (by decide) ?_
      refine s_calli (runV cf (m_isSign (ik := ik) (ky := ky) (wt := wt) (tf := tf) (tp := tp) htp (o := o) (nn := nn) qq 38) hw [0] (by decide) rfl km_X7_isSign ki_X7_isSign q1312 (run_recv (ci := 7) (T := TX7) (N := 39) hw 0 rfl rfl) rfl (rok_of (by omega) (by decide) (by decide) (by decide)) hl.1 rfl dX7_both_7) hw [0] (by decide) rfl (fun _ => rfl) (fun r_5 u_3 H locs hp_4 hw => ?_)
      have hw : WD g A s H locs [bO a 7 (mF ad ik (nI tp) (nI (atA tf tp qq.1)) (nI (bgA tf tp qq.1)) (tkA tf tp qq.1) (vaA tf tp qq.1) (nI qq.2.1.length) (nI qq.2.2.1) ky (nI o) (nI nn) (if qq.2.2.2 = true then 1 else 0) (nI (bwA tf tp qq.1)) wt), bI g (ad 10) 96 tf, bI g (ad 23) 96 cz] := hw
      subst hp_4
      refine lv_if_eq (tgt := 31) hx hb dX7_both_10 (by decide) (fun c10 => ?_) (fun c10 => ?_)
      · have c10 := b01_z c10
        have hno : ¬ (sgA tf tp 38 qq) := c10
        exact s_vret cf hr hlk cz (by rw [hres, loop_f hno]; exact hw) (by rw [hres, loop_f hno]; exact hcr) (Nat.le_of_ble_eq_true rfl) (Nat.le_of_ble_eq_true rfl) dX7_both_31 hQ
      · have c10 := b01_n c10
        have hsg := c10
        have hisq : sgA tf tp 38 qq := c10
        refine lv_aload_n hx hb dX7_both_13 rfl (lv_at hl 0 rfl) ?_
        refine s_callv (runV cf (m_next (ik := ik) (ky := ky) (wt := wt) (bg0 := nI (bgA tf tp qq.1)) (tk0 := tkA tf tp qq.1) (va0 := vaA tf tp qq.1) (cd0 := nI qq.2.1.length) (wo0 := nI qq.2.2.1) (op0 := nI o) (nt0 := nI nn) (wr0 := if qq.2.2.2 = true then 1 else 0) (tf := tf) (at_ := atA tf tp qq.1) (bw := bwA tf tp qq.1) (tp := tp) htp (lxs_rng qq.1).2.1 (by have := (lxs_rng (tf := tf) (tp := tp) qq.1).2.2.1; omega)) hw [0, 1] (by decide) rfl km_X7_next ki_X7_next q1268 (run_recv (ci := 7) (T := TX7) (N := 39) hw 0 rfl rfl) rfl (rok_of (by omega) (by decide) (by decide) (by decide)) hl.1 rfl dX7_both_14) hw [0, 1] (by decide) rfl (fun _ => rfl) (fun u_6 H locs hp_7 hw => ?_)
        have hw : WD g A s H locs [bO a 7 (mF ad ik (nI tp) (nI (lexF tf tp (atA tf tp qq.1) (bwA tf tp qq.1)).2.1) (nI (lexF tf tp (atA tf tp qq.1) (bwA tf tp qq.1)).1) ((lexF tf tp (atA tf tp qq.1) (bwA tf tp qq.1)).2.2.2.1) ((lexF tf tp (atA tf tp qq.1) (bwA tf tp qq.1)).2.2.2.2) (nI qq.2.1.length) (nI qq.2.2.1) ky (nI o) (nI nn) (if qq.2.2.2 = true then 1 else 0) (nI (lexF tf tp (atA tf tp qq.1) (bwA tf tp qq.1)).2.2.1) wt), bI g (ad 10) 96 tf, bI g (ad 23) 96 cz] := hw
        have hw : WD g A s H locs [bO a 7 (mF ad ik (nI tp) (nI (atA tf tp (nxF qq).1)) (nI (bgA tf tp (nxF qq).1)) (tkA tf tp (nxF qq).1) (vaA tf tp (nxF qq).1) (nI qq.2.1.length) (nI qq.2.2.1) ky (nI o) (nI nn) (if qq.2.2.2 = true then 1 else 0) (nI (bwA tf tp (nxF qq).1)) wt), bI g (ad 10) 96 tf, bI g (ad 23) 96 cz] := by rw [nx_eq] at hw; exact hw
        have hw : WD g A s H locs [bO a 7 (mF ad ik (nI tp) (nI (atA tf tp (nxF qq).1)) (nI (bgA tf tp (nxF qq).1)) (tkA tf tp (nxF qq).1) (vaA tf tp (nxF qq).1) (nI (nxF qq).2.1.length) (nI (nxF qq).2.2.1) ky (nI o) (nI nn) (if (nxF qq).2.2.2 = true then 1 else 0) (nI (bwA tf tp (nxF qq).1)) wt), bI g (ad 10) 96 tf, bI g (ad 23) 96 cz] := hw
        refine lv_aload_n hx hb dX7_both_17 rfl (lv_at hl 0 rfl) ?_
        refine s_callv (runV cf (hP (nxF qq) cz (show CR _ qq.2.1 from hcr) (hok.nx hsg.1) (fun z => hN (hqn z))) hw [0, 1, 2] (by decide) rfl km_X7_test ki_X7_test q1296 (run_recv (ci := 7) (T := TX7) (N := 39) hw 0 rfl rfl) rfl (rok_of (by omega) (by decide) (by decide) (by decide)) hl.1 rfl dX7_both_18) hw [0, 1, 2] (by decide) rfl (fun _ => rfl) (fun u_8 H locs hp_9 hw => ?_)
        have hw : WD g A s H locs [bO a 7 (mF ad ik (nI tp) (nI (atA tf tp (testG tf tp pc (nxF qq)).1)) (nI (bgA tf tp (testG tf tp pc (nxF qq)).1)) (tkA tf tp (testG tf tp pc (nxF qq)).1) (vaA tf tp (testG tf tp pc (nxF qq)).1) (nI (testG tf tp pc (nxF qq)).2.1.length) (nI (testG tf tp pc (nxF qq)).2.2.1) ky (nI o) (nI nn) (if (testG tf tp pc (nxF qq)).2.2.2 = true then 1 else 0) (nI (bwA tf tp (testG tf tp pc (nxF qq)).1)) wt), bI g (ad 10) 96 tf, bI g (ad 23) 96 u_8] := hw
        obtain ⟨q2_, hq2_⟩ : ∃ z, z = testG tf tp pc (nxF qq) := ⟨_, rfl⟩
        have hw : WD g A s H locs [bO a 7 (mF ad ik (nI tp) (nI (atA tf tp q2_.1)) (nI (bgA tf tp q2_.1)) (tkA tf tp q2_.1) (vaA tf tp q2_.1) (nI q2_.2.1.length) (nI q2_.2.2.1) ky (nI o) (nI nn) (if q2_.2.2.2 = true then 1 else 0) (nI (bwA tf tp q2_.1)) wt), bI g (ad 10) 96 tf, bI g (ad 23) 96 u_8] := by rw [hq2_]; exact hw
        have hcq2_ : CR u_8 q2_.2.1 := by rw [hq2_]; exact hp_9
        have hgq2_ : Gn tf tp (nxF qq) q2_ := by rw [hq2_]; exact hG _
        refine lv_aload_n hx hb dX7_both_21 rfl (lv_at hl 0 rfl) ?_
        refine lv_sipush (v := 20038) hx hb dX7_both_22 (by decide) ?_
        refine s_callv (runV cf (m_lays (ik := ik) (ky := ky) (wt := wt) (tf := tf) (tp := tp) htp (o := o) (nn := nn) q2_ (cz := u_8) (rm_lt htp (hok.rm hsg.1 hgq2_)) 20038) hw [0, 2] (by decide) rfl km_X7_lays ki_X7_lays q1316 (run_recv (ci := 7) (T := TX7) (N := 39) hw 0 rfl rfl) rfl (rok_of (by omega) (by decide) (by decide) (by decide)) hl.1 rfl dX7_both_25) hw [0, 2] (by decide) rfl (fun _ => rfl) (fun u_10 H locs hp_11 hw => ?_)
        have hw : WD g A s H locs [bO a 7 (mF ad ik (nI tp) (nI (atA tf tp (layF 20038 q2_).1)) (nI (bgA tf tp (layF 20038 q2_).1)) (tkA tf tp (layF 20038 q2_).1) (vaA tf tp (layF 20038 q2_).1) (nI (layF 20038 q2_).2.1.length) (nI (layF 20038 q2_).2.2.1) ky (nI o) (nI nn) (if (layF 20038 q2_).2.2.2 = true then 1 else 0) (nI (bwA tf tp (layF 20038 q2_).1)) wt), bI g (ad 10) 96 tf, bI g (ad 23) 96 (if q2_.2.2.2 = true then u_8 else upd u_8 q2_.2.1.length 20038)] := hw
        have hcl : CR _ (layF 20038 q2_).2.1 := CR.lay hcq2_
        have hkl : okQ tf tp (layF 20038 q2_) := okQ.lay (hok.rm hsg.1 hgq2_)
        have hfl := fu_go (v := 20038) htp hsg.1 hsg.2.2 hgq2_ hf1
        have hbl : (layF 20038 q2_).2.2.2 = false → q.2.2.2 = false := fun z => hqn ((hgq2_ (lay_bad z).1).1)
        refine lv_goto (tgt := 4) hx hb dX7_both_28 (by decide) ?_
        exact ih4 (layF 20038 q2_) (if q2_.2.2.2 = true then u_8 else upd u_8 q2_.2.1.length 20038) hcl hkl hfl.1 hfl.2 (by rw [hres, loop_t hisq, show cdA tf tp qq = 20038 from cdA_of hsg.2.1, ← hq2_]) hbl _ _ _ hw (lv_sub hl [0] rfl)
  exact L4 100 q1_ u_1 hcq1_ hkq1_ (by omega) (fun _ => by omega) (by rw [hq1_]; rfl) hbq1_ _ _ _ hw (lv_sub hl [0] rfl)
set_option maxRecDepth 100000 in
set_option maxHeartbeats 4000000 in
theorem m_whole {l : Launch} {g : GG} {a : Nat} {ad : Nat → Nat} {ik ky wt : Int32} {tf : DD} {tp : Nat} (htp : tp ≤ 96) {o nn f : Nat} {N : Prop} {pc : PS → PS} (hG : ∀ q, Gn tf tp q (bothG tf tp pc q)) (hP : SbC l g yX7_both cX7_both 1 (6 * f + 10) a ad ik ky wt tf tp o nn N (bothG tf tp pc)) (q : PS) (cz : DD) (hcr : CR cz q.2.1) (hok : okQ tf tp q) (hN : q.2.2.2 = false → N) : Ct l g yX7_whole cX7_whole 1 (Option.none : Option Jvm.ClassFile.FieldType) (6 * f + 11) 0 0 [.ref a] [bO a 7 (mF ad ik (nI tp) (nI (atA tf tp q.1)) (nI (bgA tf tp q.1)) (tkA tf tp q.1) (vaA tf tp q.1) (nI q.2.1.length) (nI q.2.2.1) ky (nI o) (nI nn) (if q.2.2.2 = true then 1 else 0) (nI (bwA tf tp q.1)) wt), bI g (ad 10) 96 tf, bI g (ad 23) 96 cz] (QV g (fun (u : DD) => CR u (wholeG tf tp pc q).2.1) (fun u => [bO a 7 (mF ad ik (nI tp) (nI (atA tf tp (wholeG tf tp pc q).1)) (nI (bgA tf tp (wholeG tf tp pc q).1)) (tkA tf tp (wholeG tf tp pc q).1) (vaA tf tp (wholeG tf tp pc q).1) (nI (wholeG tf tp pc q).2.1.length) (nI (wholeG tf tp pc q).2.2.1) ky (nI o) (nI nn) (if (wholeG tf tp pc q).2.2.2 = true then 1 else 0) (nI (bwA tf tp (wholeG tf tp pc q).1)) wt), bI g (ad 10) 96 tf, bI g (ad 23) 96 u])) := by
  refine Ct.of (by decide) rfl ?_
  intro p e s m args below meth c A H locs ls Qf cf hr hlk hnm hQ hw hl
  have hx := cf.1
  have hb := cf.2.1
  have hml := cf.2.2.1
  have hown := cf.2.2.2.1
  have hts := cf.2.2.2.2
  have hw : WD g A s H locs [bO a 7 (mF ad ik (nI tp) (nI (atA tf tp q.1)) (nI (bgA tf tp q.1)) (tkA tf tp q.1) (vaA tf tp q.1) (nI q.2.1.length) (nI q.2.2.1) ky (nI o) (nI nn) (if q.2.2.2 = true then 1 else 0) (nI (bwA tf tp q.1)) wt), bI g (ad 10) 96 tf, bI g (ad 23) 96 cz] := hw
  have hl : lv_has ls 1 [(0, .ref a)] := hl
  refine lv_aload_n hx hb dX7_whole_0 rfl (lv_at hl 0 rfl) ?_
  refine s_get (v := .int (if q.2.2.2 = true then 1 else 0)) fb7 cf hw 0 rfl 21 rfl q942 rfl dX7_whole_1 ?_
  refine lv_if_eq (tgt := 8) hx hb dX7_whole_4 (by decide) (fun c4 => ?_) (fun c4 => ?_)
  · have c4 := b01_z c4
    have hbq : ¬ q.2.2.2 = true := c4
    refine lv_aload_n hx hb dX7_whole_8 rfl (lv_at hl 0 rfl) ?_
    refine s_callv (runV cf (hP q cz hcr hok hN) hw [0, 1, 2] (by decide) rfl km_X7_both ki_X7_both q1292 (run_recv (ci := 7) (T := TX7) (N := 39) hw 0 rfl rfl) rfl (rok_of (by omega) (by decide) (by decide) (by decide)) hl.1 rfl dX7_whole_9) hw [0, 1, 2] (by decide) rfl (fun _ => rfl) (fun u_1 H locs hp_2 hw => ?_)
    have hw : WD g A s H locs [bO a 7 (mF ad ik (nI tp) (nI (atA tf tp (bothG tf tp pc q).1)) (nI (bgA tf tp (bothG tf tp pc q).1)) (tkA tf tp (bothG tf tp pc q).1) (vaA tf tp (bothG tf tp pc q).1) (nI (bothG tf tp pc q).2.1.length) (nI (bothG tf tp pc q).2.2.1) ky (nI o) (nI nn) (if (bothG tf tp pc q).2.2.2 = true then 1 else 0) (nI (bwA tf tp (bothG tf tp pc q).1)) wt), bI g (ad 10) 96 tf, bI g (ad 23) 96 u_1] := hw
    obtain ⟨q1_, hq1_⟩ : ∃ z, z = bothG tf tp pc q := ⟨_, rfl⟩
    have hw : WD g A s H locs [bO a 7 (mF ad ik (nI tp) (nI (atA tf tp q1_.1)) (nI (bgA tf tp q1_.1)) (tkA tf tp q1_.1) (vaA tf tp q1_.1) (nI q1_.2.1.length) (nI q1_.2.2.1) ky (nI o) (nI nn) (if q1_.2.2.2 = true then 1 else 0) (nI (bwA tf tp q1_.1)) wt), bI g (ad 10) 96 tf, bI g (ad 23) 96 u_1] := by rw [hq1_]; exact hw
    have hcq1_ : CR u_1 q1_.2.1 := by rw [hq1_]; exact hp_2
    have hkq1_ : okQ tf tp q1_ := by rw [hq1_]; exact hok.gn (hG q)
    have hbq1_ : q1_.2.2.2 = false → q.2.2.2 = false := fun z => (hG q (by rw [← hq1_]; exact z)).1
    have L12 : ∀ (fu : Nat) (qq : PS) (cz : DD), (CR cz qq.2.1) → (okQ tf tp qq) → (0 < fu) → (qq.2.2.2 = false → 96 < bgA tf tp qq.1 + fu) → (wholeG tf tp pc q = loopF (fun q => sgA tf tp 124 q) (bothG tf tp pc) (cdA tf tp) fu qq) → (qq.2.2.2 = false → q.2.2.2 = false) → ∀ (H : Heap) (locs : List Loc) (ls : Array Slot), WD g A s H locs [bO a 7 (mF ad ik (nI tp) (nI (atA tf tp qq.1)) (nI (bgA tf tp qq.1)) (tkA tf tp qq.1) (vaA tf tp qq.1) (nI qq.2.1.length) (nI qq.2.2.1) ky (nI o) (nI nn) (if qq.2.2.2 = true then 1 else 0) (nI (bwA tf tp qq.1)) wt), bI g (ad 10) 96 tf, bI g (ad 23) 96 cz] → lv_has ls 1 [(0, .ref a)] → W p l e (rmx (6 * f + 11) 0 0) s m args below meth c H locs 0 0 Qf (F0 m 12 ls []) := by
      intro fu
      induction fu with
      | zero => intro qq cz hcr hok hf0 hf1 hres hqn; exfalso; omega
      | succ fu ih12 =>
        intro qq cz hcr hok hf0 hf1 hres hqn H locs ls hw hl
        refine lv_aload_n hx hb dX7_whole_12 rfl (lv_at hl 0 rfl) ?_
        refine lv_bipush (v := 124) hx hb dX7_whole_13 (by decide) ?_
        refine s_calli (runV cf (m_isSign (ik := ik) (ky := ky) (wt := wt) (tf := tf) (tp := tp) htp (o := o) (nn := nn) qq 124) hw [0] (by decide) rfl km_X7_isSign ki_X7_isSign q1312 (run_recv (ci := 7) (T := TX7) (N := 39) hw 0 rfl rfl) rfl (rok_of (by omega) (by decide) (by decide) (by decide)) hl.1 rfl dX7_whole_15) hw [0] (by decide) rfl (fun _ => rfl) (fun r_5 u_3 H locs hp_4 hw => ?_)
        have hw : WD g A s H locs [bO a 7 (mF ad ik (nI tp) (nI (atA tf tp qq.1)) (nI (bgA tf tp qq.1)) (tkA tf tp qq.1) (vaA tf tp qq.1) (nI qq.2.1.length) (nI qq.2.2.1) ky (nI o) (nI nn) (if qq.2.2.2 = true then 1 else 0) (nI (bwA tf tp qq.1)) wt), bI g (ad 10) 96 tf, bI g (ad 23) 96 cz] := hw
        subst hp_4
        refine lv_if_eq (tgt := 39) hx hb dX7_whole_18 (by decide) (fun c18 => ?_) (fun c18 => ?_)
        · have c18 := b01_z c18
          have hno : ¬ (sgA tf tp 124 qq) := c18
          exact s_vret cf hr hlk cz (by rw [hres, loop_f hno]; exact hw) (by rw [hres, loop_f hno]; exact hcr) (Nat.le_of_ble_eq_true rfl) (Nat.le_of_ble_eq_true rfl) dX7_whole_39 hQ
        · have c18 := b01_n c18
          have hsg := c18
          have hisq : sgA tf tp 124 qq := c18
          refine lv_aload_n hx hb dX7_whole_21 rfl (lv_at hl 0 rfl) ?_
          refine s_callv (runV cf (m_next (ik := ik) (ky := ky) (wt := wt) (bg0 := nI (bgA tf tp qq.1)) (tk0 := tkA tf tp qq.1) (va0 := vaA tf tp qq.1) (cd0 := nI qq.2.1.length) (wo0 := nI qq.2.2.1) (op0 := nI o) (nt0 := nI nn) (wr0 := if qq.2.2.2 = true then 1 else 0) (tf := tf) (at_ := atA tf tp qq.1) (bw := bwA tf tp qq.1) (tp := tp) htp (lxs_rng qq.1).2.1 (by have := (lxs_rng (tf := tf) (tp := tp) qq.1).2.2.1; omega)) hw [0, 1] (by decide) rfl km_X7_next ki_X7_next q1268 (run_recv (ci := 7) (T := TX7) (N := 39) hw 0 rfl rfl) rfl (rok_of (by omega) (by decide) (by decide) (by decide)) hl.1 rfl dX7_whole_22) hw [0, 1] (by decide) rfl (fun _ => rfl) (fun u_6 H locs hp_7 hw => ?_)
          have hw : WD g A s H locs [bO a 7 (mF ad ik (nI tp) (nI (lexF tf tp (atA tf tp qq.1) (bwA tf tp qq.1)).2.1) (nI (lexF tf tp (atA tf tp qq.1) (bwA tf tp qq.1)).1) ((lexF tf tp (atA tf tp qq.1) (bwA tf tp qq.1)).2.2.2.1) ((lexF tf tp (atA tf tp qq.1) (bwA tf tp qq.1)).2.2.2.2) (nI qq.2.1.length) (nI qq.2.2.1) ky (nI o) (nI nn) (if qq.2.2.2 = true then 1 else 0) (nI (lexF tf tp (atA tf tp qq.1) (bwA tf tp qq.1)).2.2.1) wt), bI g (ad 10) 96 tf, bI g (ad 23) 96 cz] := hw
          have hw : WD g A s H locs [bO a 7 (mF ad ik (nI tp) (nI (atA tf tp (nxF qq).1)) (nI (bgA tf tp (nxF qq).1)) (tkA tf tp (nxF qq).1) (vaA tf tp (nxF qq).1) (nI qq.2.1.length) (nI qq.2.2.1) ky (nI o) (nI nn) (if qq.2.2.2 = true then 1 else 0) (nI (bwA tf tp (nxF qq).1)) wt), bI g (ad 10) 96 tf, bI g (ad 23) 96 cz] := by rw [nx_eq] at hw; exact hw
          have hw : WD g A s H locs [bO a 7 (mF ad ik (nI tp) (nI (atA tf tp (nxF qq).1)) (nI (bgA tf tp (nxF qq).1)) (tkA tf tp (nxF qq).1) (vaA tf tp (nxF qq).1) (nI (nxF qq).2.1.length) (nI (nxF qq).2.2.1) ky (nI o) (nI nn) (if (nxF qq).2.2.2 = true then 1 else 0) (nI (bwA tf tp (nxF qq).1)) wt), bI g (ad 10) 96 tf, bI g (ad 23) 96 cz] := hw
          refine lv_aload_n hx hb dX7_whole_25 rfl (lv_at hl 0 rfl) ?_
          refine s_callv (runV cf (hP (nxF qq) cz (show CR _ qq.2.1 from hcr) (hok.nx hsg.1) (fun z => hN (hqn z))) hw [0, 1, 2] (by decide) rfl km_X7_both ki_X7_both q1292 (run_recv (ci := 7) (T := TX7) (N := 39) hw 0 rfl rfl) rfl (rok_of (by omega) (by decide) (by decide) (by decide)) hl.1 rfl dX7_whole_26) hw [0, 1, 2] (by decide) rfl (fun _ => rfl) (fun u_8 H locs hp_9 hw => ?_)
          have hw : WD g A s H locs [bO a 7 (mF ad ik (nI tp) (nI (atA tf tp (bothG tf tp pc (nxF qq)).1)) (nI (bgA tf tp (bothG tf tp pc (nxF qq)).1)) (tkA tf tp (bothG tf tp pc (nxF qq)).1) (vaA tf tp (bothG tf tp pc (nxF qq)).1) (nI (bothG tf tp pc (nxF qq)).2.1.length) (nI (bothG tf tp pc (nxF qq)).2.2.1) ky (nI o) (nI nn) (if (bothG tf tp pc (nxF qq)).2.2.2 = true then 1 else 0) (nI (bwA tf tp (bothG tf tp pc (nxF qq)).1)) wt), bI g (ad 10) 96 tf, bI g (ad 23) 96 u_8] := hw
          obtain ⟨q2_, hq2_⟩ : ∃ z, z = bothG tf tp pc (nxF qq) := ⟨_, rfl⟩
          have hw : WD g A s H locs [bO a 7 (mF ad ik (nI tp) (nI (atA tf tp q2_.1)) (nI (bgA tf tp q2_.1)) (tkA tf tp q2_.1) (vaA tf tp q2_.1) (nI q2_.2.1.length) (nI q2_.2.2.1) ky (nI o) (nI nn) (if q2_.2.2.2 = true then 1 else 0) (nI (bwA tf tp q2_.1)) wt), bI g (ad 10) 96 tf, bI g (ad 23) 96 u_8] := by rw [hq2_]; exact hw
          have hcq2_ : CR u_8 q2_.2.1 := by rw [hq2_]; exact hp_9
          have hgq2_ : Gn tf tp (nxF qq) q2_ := by rw [hq2_]; exact hG _
          refine lv_aload_n hx hb dX7_whole_29 rfl (lv_at hl 0 rfl) ?_
          refine lv_sipush (v := 20124) hx hb dX7_whole_30 (by decide) ?_
          refine s_callv (runV cf (m_lays (ik := ik) (ky := ky) (wt := wt) (tf := tf) (tp := tp) htp (o := o) (nn := nn) q2_ (cz := u_8) (rm_lt htp (hok.rm hsg.1 hgq2_)) 20124) hw [0, 2] (by decide) rfl km_X7_lays ki_X7_lays q1316 (run_recv (ci := 7) (T := TX7) (N := 39) hw 0 rfl rfl) rfl (rok_of (by omega) (by decide) (by decide) (by decide)) hl.1 rfl dX7_whole_33) hw [0, 2] (by decide) rfl (fun _ => rfl) (fun u_10 H locs hp_11 hw => ?_)
          have hw : WD g A s H locs [bO a 7 (mF ad ik (nI tp) (nI (atA tf tp (layF 20124 q2_).1)) (nI (bgA tf tp (layF 20124 q2_).1)) (tkA tf tp (layF 20124 q2_).1) (vaA tf tp (layF 20124 q2_).1) (nI (layF 20124 q2_).2.1.length) (nI (layF 20124 q2_).2.2.1) ky (nI o) (nI nn) (if (layF 20124 q2_).2.2.2 = true then 1 else 0) (nI (bwA tf tp (layF 20124 q2_).1)) wt), bI g (ad 10) 96 tf, bI g (ad 23) 96 (if q2_.2.2.2 = true then u_8 else upd u_8 q2_.2.1.length 20124)] := hw
          have hcl : CR _ (layF 20124 q2_).2.1 := CR.lay hcq2_
          have hkl : okQ tf tp (layF 20124 q2_) := okQ.lay (hok.rm hsg.1 hgq2_)
          have hfl := fu_go (v := 20124) htp hsg.1 hsg.2.2 hgq2_ hf1
          have hbl : (layF 20124 q2_).2.2.2 = false → q.2.2.2 = false := fun z => hqn ((hgq2_ (lay_bad z).1).1)
          refine lv_goto (tgt := 12) hx hb dX7_whole_36 (by decide) ?_
          exact ih12 (layF 20124 q2_) (if q2_.2.2.2 = true then u_8 else upd u_8 q2_.2.1.length 20124) hcl hkl hfl.1 hfl.2 (by rw [hres, loop_t hisq, show cdA tf tp qq = 20124 from cdA_of hsg.2.1, ← hq2_]) hbl _ _ _ hw (lv_sub hl [0] rfl)
    exact L12 100 q1_ u_1 hcq1_ hkq1_ (by omega) (fun _ => by omega) (by show (if q.2.2.2 = true then q else _) = _; rw [if_neg hbq, hq1_]) hbq1_ _ _ _ hw (lv_sub hl [0] rfl)
  · have c4 := b01_n c4
    exact s_vret cf hr hlk cz (by have e : wholeG tf tp pc q = q := if_pos c4; rw [e]; exact hw) (by have e : wholeG tf tp pc q = q := if_pos c4; rw [e]; exact hcr) (Nat.le_of_ble_eq_true rfl) (Nat.le_of_ble_eq_true rfl) dX7_whole_7 hQ
