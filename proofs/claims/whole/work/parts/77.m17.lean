set_option maxRecDepth 100000 in
set_option maxHeartbeats 4000000 in
theorem m_test {l : Launch} {g : GG} {a : Nat} {ad : Nat → Nat} {ik ky wt : Int32} {tf : DD} {tp : Nat} (htp : tp ≤ 96) {o nn f : Nat} {N : Prop} {pc : PS → PS} (hG : ∀ q, Gn tf tp q (sumG tf tp pc q)) (hP : SbC l g yX7_sum cX7_sum 2 (6 * f + 8) a ad ik ky wt tf tp o nn N (sumG tf tp pc)) (q : PS) (cz : DD) (hcr : CR cz q.2.1) (hok : okQ tf tp q) (hN : q.2.2.2 = false → N) : Ct l g yX7_test cX7_test 2 (Option.none : Option Jvm.ClassFile.FieldType) (6 * f + 9) 0 0 [.ref a] [bO a 7 (mF ad ik (nI tp) (nI (atA tf tp q.1)) (nI (bgA tf tp q.1)) (tkA tf tp q.1) (vaA tf tp q.1) (nI q.2.1.length) (nI q.2.2.1) ky (nI o) (nI nn) (if q.2.2.2 = true then 1 else 0) (nI (bwA tf tp q.1)) wt), bI g (ad 10) 96 tf, bI g (ad 23) 96 cz] (QV g (fun (u : DD) => CR u (testG tf tp pc q).2.1) (fun u => [bO a 7 (mF ad ik (nI tp) (nI (atA tf tp (testG tf tp pc q).1)) (nI (bgA tf tp (testG tf tp pc q).1)) (tkA tf tp (testG tf tp pc q).1) (vaA tf tp (testG tf tp pc q).1) (nI (testG tf tp pc q).2.1.length) (nI (testG tf tp pc q).2.2.1) ky (nI o) (nI nn) (if (testG tf tp pc q).2.2.2 = true then 1 else 0) (nI (bwA tf tp (testG tf tp pc q).1)) wt), bI g (ad 10) 96 tf, bI g (ad 23) 96 u])) := by
  refine Ct.of (by decide) rfl ?_
  intro p e s m args below meth c A H locs ls Qf cf hr hlk hnm hQ hw hl
  have hx := cf.1
  have hb := cf.2.1
  have hml := cf.2.2.1
  have hown := cf.2.2.2.1
  have hts := cf.2.2.2.2
  have hw : WD g A s H locs [bO a 7 (mF ad ik (nI tp) (nI (atA tf tp q.1)) (nI (bgA tf tp q.1)) (tkA tf tp q.1) (vaA tf tp q.1) (nI q.2.1.length) (nI q.2.2.1) ky (nI o) (nI nn) (if q.2.2.2 = true then 1 else 0) (nI (bwA tf tp q.1)) wt), bI g (ad 10) 96 tf, bI g (ad 23) 96 cz] := hw
  have hl : lv_has ls 2 [(0, .ref a)] := hl
  refine lv_aload_n hx hb dX7_test_0 rfl (lv_at hl 0 rfl) ?_
  refine s_callv (runV cf (hP q cz hcr hok hN) hw [0, 1, 2] (by decide) rfl km_X7_sum ki_X7_sum q1300 (run_recv (ci := 7) (T := TX7) (N := 39) hw 0 rfl rfl) rfl (rok_of (by omega) (by decide) (by decide) (by decide)) hl.1 rfl dX7_test_1) hw [0, 1, 2] (by decide) rfl (fun _ => rfl) (fun u_1 H locs hp_2 hw => ?_)
  have hw : WD g A s H locs [bO a 7 (mF ad ik (nI tp) (nI (atA tf tp (sumG tf tp pc q).1)) (nI (bgA tf tp (sumG tf tp pc q).1)) (tkA tf tp (sumG tf tp pc q).1) (vaA tf tp (sumG tf tp pc q).1) (nI (sumG tf tp pc q).2.1.length) (nI (sumG tf tp pc q).2.2.1) ky (nI o) (nI nn) (if (sumG tf tp pc q).2.2.2 = true then 1 else 0) (nI (bwA tf tp (sumG tf tp pc q).1)) wt), bI g (ad 10) 96 tf, bI g (ad 23) 96 u_1] := hw
  obtain ⟨q1_, hq1_⟩ : ∃ z, z = sumG tf tp pc q := ⟨_, rfl⟩
  have hw : WD g A s H locs [bO a 7 (mF ad ik (nI tp) (nI (atA tf tp q1_.1)) (nI (bgA tf tp q1_.1)) (tkA tf tp q1_.1) (vaA tf tp q1_.1) (nI q1_.2.1.length) (nI q1_.2.2.1) ky (nI o) (nI nn) (if q1_.2.2.2 = true then 1 else 0) (nI (bwA tf tp q1_.1)) wt), bI g (ad 10) 96 tf, bI g (ad 23) 96 u_1] := by rw [hq1_]; exact hw
  have hcq1_ : CR u_1 q1_.2.1 := by rw [hq1_]; exact hp_2
  have hkq1_ : okQ tf tp q1_ := by rw [hq1_]; exact hok.gn (hG q)
  have hbq1_ : q1_.2.2.2 = false → q.2.2.2 = false := fun z => (hG q (by rw [← hq1_]; exact z)).1
  refine lv_aload_n hx hb dX7_test_4 rfl (lv_at hl 0 rfl) ?_
  refine lv_bipush (v := 60) hx hb dX7_test_5 (by decide) ?_
  refine s_calli (runV cf (m_isSign (ik := ik) (ky := ky) (wt := wt) (tf := tf) (tp := tp) htp (o := o) (nn := nn) q1_ 60) hw [0] (by decide) rfl km_X7_isSign ki_X7_isSign q1312 (run_recv (ci := 7) (T := TX7) (N := 39) hw 0 rfl rfl) rfl (rok_of (by omega) (by decide) (by decide) (by decide)) hl.1 rfl dX7_test_7) hw [0] (by decide) rfl (fun _ => rfl) (fun r_5 u_3 H locs hp_4 hw => ?_)
  have hw : WD g A s H locs [bO a 7 (mF ad ik (nI tp) (nI (atA tf tp q1_.1)) (nI (bgA tf tp q1_.1)) (tkA tf tp q1_.1) (vaA tf tp q1_.1) (nI q1_.2.1.length) (nI q1_.2.2.1) ky (nI o) (nI nn) (if q1_.2.2.2 = true then 1 else 0) (nI (bwA tf tp q1_.1)) wt), bI g (ad 10) 96 tf, bI g (ad 23) 96 u_1] := hw
  subst hp_4
  refine lv_if_ne (tgt := 31) hx hb dX7_test_10 (by decide) (fun c10 => ?_) (fun c10 => ?_)
  · have c10 := b01_n c10
    have hsg := c10
    have hisq : sgA tf tp 60 q1_ ∨ sgA tf tp 61 q1_ ∨ sgA tf tp 62 q1_ := Or.inl c10
    refine lv_aload_n hx hb dX7_test_31 rfl (lv_at hl 0 rfl) ?_
    refine s_get (v := .long (vaA tf tp q1_.1)) fb7 cf hw 0 rfl 15 rfl q936 rfl dX7_test_32 ?_
    refine lv_l2i (v := (vaA tf tp q1_.1 : Int64).toInt32) hx hb dX7_test_35 rfl ?_
    refine lv_istore_n (lv' := [(1, .int ((vaA tf tp q1_.1 : Int64).toInt32)), (0, .ref a)]) hx hb dX7_test_36 rfl hl (by decide) rfl (fun ls hl => ?_)
    refine lv_aload_n hx hb dX7_test_37 rfl (lv_at hl 1 rfl) ?_
    refine s_callv (runV cf (m_next (ik := ik) (ky := ky) (wt := wt) (bg0 := nI (bgA tf tp q1_.1)) (tk0 := tkA tf tp q1_.1) (va0 := vaA tf tp q1_.1) (cd0 := nI q1_.2.1.length) (wo0 := nI q1_.2.2.1) (op0 := nI o) (nt0 := nI nn) (wr0 := if q1_.2.2.2 = true then 1 else 0) (tf := tf) (at_ := atA tf tp q1_.1) (bw := bwA tf tp q1_.1) (tp := tp) htp (lxs_rng q1_.1).2.1 (by have := (lxs_rng (tf := tf) (tp := tp) q1_.1).2.2.1; omega)) hw [0, 1] (by decide) rfl km_X7_next ki_X7_next q1268 (run_recv (ci := 7) (T := TX7) (N := 39) hw 0 rfl rfl) rfl (rok_of (by omega) (by decide) (by decide) (by decide)) hl.1 rfl dX7_test_38) hw [0, 1] (by decide) rfl (fun _ => rfl) (fun u_6 H locs hp_7 hw => ?_)
    have hw : WD g A s H locs [bO a 7 (mF ad ik (nI tp) (nI (lexF tf tp (atA tf tp q1_.1) (bwA tf tp q1_.1)).2.1) (nI (lexF tf tp (atA tf tp q1_.1) (bwA tf tp q1_.1)).1) ((lexF tf tp (atA tf tp q1_.1) (bwA tf tp q1_.1)).2.2.2.1) ((lexF tf tp (atA tf tp q1_.1) (bwA tf tp q1_.1)).2.2.2.2) (nI q1_.2.1.length) (nI q1_.2.2.1) ky (nI o) (nI nn) (if q1_.2.2.2 = true then 1 else 0) (nI (lexF tf tp (atA tf tp q1_.1) (bwA tf tp q1_.1)).2.2.1) wt), bI g (ad 10) 96 tf, bI g (ad 23) 96 u_1] := hw
    have hw : WD g A s H locs [bO a 7 (mF ad ik (nI tp) (nI (atA tf tp (nxF q1_).1)) (nI (bgA tf tp (nxF q1_).1)) (tkA tf tp (nxF q1_).1) (vaA tf tp (nxF q1_).1) (nI q1_.2.1.length) (nI q1_.2.2.1) ky (nI o) (nI nn) (if q1_.2.2.2 = true then 1 else 0) (nI (bwA tf tp (nxF q1_).1)) wt), bI g (ad 10) 96 tf, bI g (ad 23) 96 u_1] := by rw [nx_eq] at hw; exact hw
    have hw : WD g A s H locs [bO a 7 (mF ad ik (nI tp) (nI (atA tf tp (nxF q1_).1)) (nI (bgA tf tp (nxF q1_).1)) (tkA tf tp (nxF q1_).1) (vaA tf tp (nxF q1_).1) (nI (nxF q1_).2.1.length) (nI (nxF q1_).2.2.1) ky (nI o) (nI nn) (if (nxF q1_).2.2.2 = true then 1 else 0) (nI (bwA tf tp (nxF q1_).1)) wt), bI g (ad 10) 96 tf, bI g (ad 23) 96 u_1] := hw
    refine lv_aload_n hx hb dX7_test_41 rfl (lv_at hl 1 rfl) ?_
    refine s_callv (runV cf (hP (nxF q1_) u_1 (show CR _ q1_.2.1 from hcq1_) (hkq1_.nx hsg.1) (fun z => hN (hbq1_ z))) hw [0, 1, 2] (by decide) rfl km_X7_sum ki_X7_sum q1300 (run_recv (ci := 7) (T := TX7) (N := 39) hw 0 rfl rfl) rfl (rok_of (by omega) (by decide) (by decide) (by decide)) hl.1 rfl dX7_test_42) hw [0, 1, 2] (by decide) rfl (fun _ => rfl) (fun u_8 H locs hp_9 hw => ?_)
    have hw : WD g A s H locs [bO a 7 (mF ad ik (nI tp) (nI (atA tf tp (sumG tf tp pc (nxF q1_)).1)) (nI (bgA tf tp (sumG tf tp pc (nxF q1_)).1)) (tkA tf tp (sumG tf tp pc (nxF q1_)).1) (vaA tf tp (sumG tf tp pc (nxF q1_)).1) (nI (sumG tf tp pc (nxF q1_)).2.1.length) (nI (sumG tf tp pc (nxF q1_)).2.2.1) ky (nI o) (nI nn) (if (sumG tf tp pc (nxF q1_)).2.2.2 = true then 1 else 0) (nI (bwA tf tp (sumG tf tp pc (nxF q1_)).1)) wt), bI g (ad 10) 96 tf, bI g (ad 23) 96 u_8] := hw
    obtain ⟨q2_, hq2_⟩ : ∃ z, z = sumG tf tp pc (nxF q1_) := ⟨_, rfl⟩
    have hw : WD g A s H locs [bO a 7 (mF ad ik (nI tp) (nI (atA tf tp q2_.1)) (nI (bgA tf tp q2_.1)) (tkA tf tp q2_.1) (vaA tf tp q2_.1) (nI q2_.2.1.length) (nI q2_.2.2.1) ky (nI o) (nI nn) (if q2_.2.2.2 = true then 1 else 0) (nI (bwA tf tp q2_.1)) wt), bI g (ad 10) 96 tf, bI g (ad 23) 96 u_8] := by rw [hq2_]; exact hw
    have hcq2_ : CR u_8 q2_.2.1 := by rw [hq2_]; exact hp_9
    have hgq2_ : Gn tf tp (nxF q1_) q2_ := by rw [hq2_]; exact hG _
    refine lv_aload_n hx hb dX7_test_45 rfl (lv_at hl 1 rfl) ?_
    refine lv_sipush (v := 20000) hx hb dX7_test_46 (by decide) ?_
    refine lv_iload_n hx hb dX7_test_49 rfl (lv_at hl 0 rfl) ?_
    refine lv_iadd hx hb dX7_test_50 ?_
    refine s_callv (runV cf (m_lays (ik := ik) (ky := ky) (wt := wt) (tf := tf) (tp := tp) htp (o := o) (nn := nn) q2_ (cz := u_8) (rm_lt htp (hkq1_.rm hsg.1 hgq2_)) (20000 + ((vaA tf tp q1_.1 : Int64).toInt32))) hw [0, 2] (by decide) rfl km_X7_lays ki_X7_lays q1316 (run_recv (ci := 7) (T := TX7) (N := 39) hw 0 rfl rfl) rfl (rok_of (by omega) (by decide) (by decide) (by decide)) hl.1 rfl dX7_test_51) hw [0, 2] (by decide) rfl (fun _ => rfl) (fun u_10 H locs hp_11 hw => ?_)
    have hw : WD g A s H locs [bO a 7 (mF ad ik (nI tp) (nI (atA tf tp (layF (20000 + ((vaA tf tp q1_.1 : Int64).toInt32)) q2_).1)) (nI (bgA tf tp (layF (20000 + ((vaA tf tp q1_.1 : Int64).toInt32)) q2_).1)) (tkA tf tp (layF (20000 + ((vaA tf tp q1_.1 : Int64).toInt32)) q2_).1) (vaA tf tp (layF (20000 + ((vaA tf tp q1_.1 : Int64).toInt32)) q2_).1) (nI (layF (20000 + ((vaA tf tp q1_.1 : Int64).toInt32)) q2_).2.1.length) (nI (layF (20000 + ((vaA tf tp q1_.1 : Int64).toInt32)) q2_).2.2.1) ky (nI o) (nI nn) (if (layF (20000 + ((vaA tf tp q1_.1 : Int64).toInt32)) q2_).2.2.2 = true then 1 else 0) (nI (bwA tf tp (layF (20000 + ((vaA tf tp q1_.1 : Int64).toInt32)) q2_).1)) wt), bI g (ad 10) 96 tf, bI g (ad 23) 96 (if q2_.2.2.2 = true then u_8 else upd u_8 q2_.2.1.length (20000 + ((vaA tf tp q1_.1 : Int64).toInt32)))] := hw
    have hcl : CR _ (layF (20000 + ((vaA tf tp q1_.1 : Int64).toInt32)) q2_).2.1 := CR.lay hcq2_
    have e : testG tf tp pc q = (layF (20000 + ((vaA tf tp q1_.1 : Int64).toInt32)) q2_) := by unfold testG; rw [← hq1_, if_pos hisq, ← hq2_]; rfl
    exact s_vret cf hr hlk (if q2_.2.2.2 = true then u_8 else upd u_8 q2_.2.1.length (20000 + ((vaA tf tp q1_.1 : Int64).toInt32))) (by rw [e]; exact hw) (by rw [e]; exact hcl) (Nat.le_of_ble_eq_true rfl) (Nat.le_of_ble_eq_true rfl) dX7_test_54 hQ
  · have c10 := b01_z c10
    refine lv_aload_n hx hb dX7_test_13 rfl (lv_at hl 0 rfl) ?_
    refine lv_bipush (v := 61) hx hb dX7_test_14 (by decide) ?_
    refine s_calli (runV cf (m_isSign (ik := ik) (ky := ky) (wt := wt) (tf := tf) (tp := tp) htp (o := o) (nn := nn) q1_ 61) hw [0] (by decide) rfl km_X7_isSign ki_X7_isSign q1312 (run_recv (ci := 7) (T := TX7) (N := 39) hw 0 rfl rfl) rfl (rok_of (by omega) (by decide) (by decide) (by decide)) hl.1 rfl dX7_test_16) hw [0] (by decide) rfl (fun _ => rfl) (fun r_14 u_12 H locs hp_13 hw => ?_)
    have hw : WD g A s H locs [bO a 7 (mF ad ik (nI tp) (nI (atA tf tp q1_.1)) (nI (bgA tf tp q1_.1)) (tkA tf tp q1_.1) (vaA tf tp q1_.1) (nI q1_.2.1.length) (nI q1_.2.2.1) ky (nI o) (nI nn) (if q1_.2.2.2 = true then 1 else 0) (nI (bwA tf tp q1_.1)) wt), bI g (ad 10) 96 tf, bI g (ad 23) 96 u_1] := hw
    subst hp_13
    refine lv_if_ne (tgt := 31) hx hb dX7_test_19 (by decide) (fun c19 => ?_) (fun c19 => ?_)
    · have c19 := b01_n c19
      have hsg := c19
      have hisq : sgA tf tp 60 q1_ ∨ sgA tf tp 61 q1_ ∨ sgA tf tp 62 q1_ := Or.inr (Or.inl c19)
      refine lv_aload_n hx hb dX7_test_31 rfl (lv_at hl 0 rfl) ?_
      refine s_get (v := .long (vaA tf tp q1_.1)) fb7 cf hw 0 rfl 15 rfl q936 rfl dX7_test_32 ?_
      refine lv_l2i (v := (vaA tf tp q1_.1 : Int64).toInt32) hx hb dX7_test_35 rfl ?_
      refine lv_istore_n (lv' := [(1, .int ((vaA tf tp q1_.1 : Int64).toInt32)), (0, .ref a)]) hx hb dX7_test_36 rfl hl (by decide) rfl (fun ls hl => ?_)
      refine lv_aload_n hx hb dX7_test_37 rfl (lv_at hl 1 rfl) ?_
      refine s_callv (runV cf (m_next (ik := ik) (ky := ky) (wt := wt) (bg0 := nI (bgA tf tp q1_.1)) (tk0 := tkA tf tp q1_.1) (va0 := vaA tf tp q1_.1) (cd0 := nI q1_.2.1.length) (wo0 := nI q1_.2.2.1) (op0 := nI o) (nt0 := nI nn) (wr0 := if q1_.2.2.2 = true then 1 else 0) (tf := tf) (at_ := atA tf tp q1_.1) (bw := bwA tf tp q1_.1) (tp := tp) htp (lxs_rng q1_.1).2.1 (by have := (lxs_rng (tf := tf) (tp := tp) q1_.1).2.2.1; omega)) hw [0, 1] (by decide) rfl km_X7_next ki_X7_next q1268 (run_recv (ci := 7) (T := TX7) (N := 39) hw 0 rfl rfl) rfl (rok_of (by omega) (by decide) (by decide) (by decide)) hl.1 rfl dX7_test_38) hw [0, 1] (by decide) rfl (fun _ => rfl) (fun u_15 H locs hp_16 hw => ?_)
      have hw : WD g A s H locs [bO a 7 (mF ad ik (nI tp) (nI (lexF tf tp (atA tf tp q1_.1) (bwA tf tp q1_.1)).2.1) (nI (lexF tf tp (atA tf tp q1_.1) (bwA tf tp q1_.1)).1) ((lexF tf tp (atA tf tp q1_.1) (bwA tf tp q1_.1)).2.2.2.1) ((lexF tf tp (atA tf tp q1_.1) (bwA tf tp q1_.1)).2.2.2.2) (nI q1_.2.1.length) (nI q1_.2.2.1) ky (nI o) (nI nn) (if q1_.2.2.2 = true then 1 else 0) (nI (lexF tf tp (atA tf tp q1_.1) (bwA tf tp q1_.1)).2.2.1) wt), bI g (ad 10) 96 tf, bI g (ad 23) 96 u_1] := hw
      have hw : WD g A s H locs [bO a 7 (mF ad ik (nI tp) (nI (atA tf tp (nxF q1_).1)) (nI (bgA tf tp (nxF q1_).1)) (tkA tf tp (nxF q1_).1) (vaA tf tp (nxF q1_).1) (nI q1_.2.1.length) (nI q1_.2.2.1) ky (nI o) (nI nn) (if q1_.2.2.2 = true then 1 else 0) (nI (bwA tf tp (nxF q1_).1)) wt), bI g (ad 10) 96 tf, bI g (ad 23) 96 u_1] := by rw [nx_eq] at hw; exact hw
      have hw : WD g A s H locs [bO a 7 (mF ad ik (nI tp) (nI (atA tf tp (nxF q1_).1)) (nI (bgA tf tp (nxF q1_).1)) (tkA tf tp (nxF q1_).1) (vaA tf tp (nxF q1_).1) (nI (nxF q1_).2.1.length) (nI (nxF q1_).2.2.1) ky (nI o) (nI nn) (if (nxF q1_).2.2.2 = true then 1 else 0) (nI (bwA tf tp (nxF q1_).1)) wt), bI g (ad 10) 96 tf, bI g (ad 23) 96 u_1] := hw
      refine lv_aload_n hx hb dX7_test_41 rfl (lv_at hl 1 rfl) ?_
      refine s_callv (runV cf (hP (nxF q1_) u_1 (show CR _ q1_.2.1 from hcq1_) (hkq1_.nx hsg.1) (fun z => hN (hbq1_ z))) hw [0, 1, 2] (by decide) rfl km_X7_sum ki_X7_sum q1300 (run_recv (ci := 7) (T := TX7) (N := 39) hw 0 rfl rfl) rfl (rok_of (by omega) (by decide) (by decide) (by decide)) hl.1 rfl dX7_test_42) hw [0, 1, 2] (by decide) rfl (fun _ => rfl) (fun u_17 H locs hp_18 hw => ?_)
      have hw : WD g A s H locs [bO a 7 (mF ad ik (nI tp) (nI (atA tf tp (sumG tf tp pc (nxF q1_)).1)) (nI (bgA tf tp (sumG tf tp pc (nxF q1_)).1)) (tkA tf tp (sumG tf tp pc (nxF q1_)).1) (vaA tf tp (sumG tf tp pc (nxF q1_)).1) (nI (sumG tf tp pc (nxF q1_)).2.1.length) (nI (sumG tf tp pc (nxF q1_)).2.2.1) ky (nI o) (nI nn) (if (sumG tf tp pc (nxF q1_)).2.2.2 = true then 1 else 0) (nI (bwA tf tp (sumG tf tp pc (nxF q1_)).1)) wt), bI g (ad 10) 96 tf, bI g (ad 23) 96 u_17] := hw
      obtain ⟨q3_, hq3_⟩ : ∃ z, z = sumG tf tp pc (nxF q1_) := ⟨_, rfl⟩
      have hw : WD g A s H locs [bO a 7 (mF ad ik (nI tp) (nI (atA tf tp q3_.1)) (nI (bgA tf tp q3_.1)) (tkA tf tp q3_.1) (vaA tf tp q3_.1) (nI q3_.2.1.length) (nI q3_.2.2.1) ky (nI o) (nI nn) (if q3_.2.2.2 = true then 1 else 0) (nI (bwA tf tp q3_.1)) wt), bI g (ad 10) 96 tf, bI g (ad 23) 96 u_17] := by rw [hq3_]; exact hw
      have hcq3_ : CR u_17 q3_.2.1 := by rw [hq3_]; exact hp_18
      have hgq3_ : Gn tf tp (nxF q1_) q3_ := by rw [hq3_]; exact hG _
      refine lv_aload_n hx hb dX7_test_45 rfl (lv_at hl 1 rfl) ?_
      refine lv_sipush (v := 20000) hx hb dX7_test_46 (by decide) ?_
      refine lv_iload_n hx hb dX7_test_49 rfl (lv_at hl 0 rfl) ?_
      refine lv_iadd hx hb dX7_test_50 ?_
      refine s_callv (runV cf (m_lays (ik := ik) (ky := ky) (wt := wt) (tf := tf) (tp := tp) htp (o := o) (nn := nn) q3_ (cz := u_17) (rm_lt htp (hkq1_.rm hsg.1 hgq3_)) (20000 + ((vaA tf tp q1_.1 : Int64).toInt32))) hw [0, 2] (by decide) rfl km_X7_lays ki_X7_lays q1316 (run_recv (ci := 7) (T := TX7) (N := 39) hw 0 rfl rfl) rfl (rok_of (by omega) (by decide) (by decide) (by decide)) hl.1 rfl dX7_test_51) hw [0, 2] (by decide) rfl (fun _ => rfl) (fun u_19 H locs hp_20 hw => ?_)
      have hw : WD g A s H locs [bO a 7 (mF ad ik (nI tp) (nI (atA tf tp (layF (20000 + ((vaA tf tp q1_.1 : Int64).toInt32)) q3_).1)) (nI (bgA tf tp (layF (20000 + ((vaA tf tp q1_.1 : Int64).toInt32)) q3_).1)) (tkA tf tp (layF (20000 + ((vaA tf tp q1_.1 : Int64).toInt32)) q3_).1) (vaA tf tp (layF (20000 + ((vaA tf tp q1_.1 : Int64).toInt32)) q3_).1) (nI (layF (20000 + ((vaA tf tp q1_.1 : Int64).toInt32)) q3_).2.1.length) (nI (layF (20000 + ((vaA tf tp q1_.1 : Int64).toInt32)) q3_).2.2.1) ky (nI o) (nI nn) (if (layF (20000 + ((vaA tf tp q1_.1 : Int64).toInt32)) q3_).2.2.2 = true then 1 else 0) (nI (bwA tf tp (layF (20000 + ((vaA tf tp q1_.1 : Int64).toInt32)) q3_).1)) wt), bI g (ad 10) 96 tf, bI g (ad 23) 96 (if q3_.2.2.2 = true then u_17 else upd u_17 q3_.2.1.length (20000 + ((vaA tf tp q1_.1 : Int64).toInt32)))] := hw
      have hcl : CR _ (layF (20000 + ((vaA tf tp q1_.1 : Int64).toInt32)) q3_).2.1 := CR.lay hcq3_
      have e : testG tf tp pc q = (layF (20000 + ((vaA tf tp q1_.1 : Int64).toInt32)) q3_) := by unfold testG; rw [← hq1_, if_pos hisq, ← hq3_]; rfl
      exact s_vret cf hr hlk (if q3_.2.2.2 = true then u_17 else upd u_17 q3_.2.1.length (20000 + ((vaA tf tp q1_.1 : Int64).toInt32))) (by rw [e]; exact hw) (by rw [e]; exact hcl) (Nat.le_of_ble_eq_true rfl) (Nat.le_of_ble_eq_true rfl) dX7_test_54 hQ
    · have c19 := b01_z c19
      refine lv_aload_n hx hb dX7_test_22 rfl (lv_at hl 0 rfl) ?_
      refine lv_bipush (v := 62) hx hb dX7_test_23 (by decide) ?_
      refine s_calli (runV cf (m_isSign (ik := ik) (ky := ky) (wt := wt) (tf := tf) (tp := tp) htp (o := o) (nn := nn) q1_ 62) hw [0] (by decide) rfl km_X7_isSign ki_X7_isSign q1312 (run_recv (ci := 7) (T := TX7) (N := 39) hw 0 rfl rfl) rfl (rok_of (by omega) (by decide) (by decide) (by decide)) hl.1 rfl dX7_test_25) hw [0] (by decide) rfl (fun _ => rfl) (fun r_23 u_21 H locs hp_22 hw => ?_)
      have hw : WD g A s H locs [bO a 7 (mF ad ik (nI tp) (nI (atA tf tp q1_.1)) (nI (bgA tf tp q1_.1)) (tkA tf tp q1_.1) (vaA tf tp q1_.1) (nI q1_.2.1.length) (nI q1_.2.2.1) ky (nI o) (nI nn) (if q1_.2.2.2 = true then 1 else 0) (nI (bwA tf tp q1_.1)) wt), bI g (ad 10) 96 tf, bI g (ad 23) 96 u_1] := hw
      subst hp_22
      refine lv_if_eq (tgt := 54) hx hb dX7_test_28 (by decide) (fun c28 => ?_) (fun c28 => ?_)
      · have c28 := b01_z c28
        have hno : ¬ (sgA tf tp 60 q1_ ∨ sgA tf tp 61 q1_ ∨ sgA tf tp 62 q1_) := fun z => by rcases z with y | y | y; exact c10 y; exact c19 y; exact c28 y
        have e : testG tf tp pc q = q1_ := by unfold testG; rw [← hq1_, if_neg hno]
        exact s_vret cf hr hlk u_1 (by rw [e]; exact hw) (by rw [e]; exact hcq1_) (Nat.le_of_ble_eq_true rfl) (Nat.le_of_ble_eq_true rfl) dX7_test_54 hQ
      · have c28 := b01_n c28
        have hsg := c28
        have hisq : sgA tf tp 60 q1_ ∨ sgA tf tp 61 q1_ ∨ sgA tf tp 62 q1_ := Or.inr (Or.inr c28)
        refine lv_aload_n hx hb dX7_test_31 rfl (lv_at hl 0 rfl) ?_
        refine s_get (v := .long (vaA tf tp q1_.1)) fb7 cf hw 0 rfl 15 rfl q936 rfl dX7_test_32 ?_
        refine lv_l2i (v := (vaA tf tp q1_.1 : Int64).toInt32) hx hb dX7_test_35 rfl ?_
        refine lv_istore_n (lv' := [(1, .int ((vaA tf tp q1_.1 : Int64).toInt32)), (0, .ref a)]) hx hb dX7_test_36 rfl hl (by decide) rfl (fun ls hl => ?_)
        refine lv_aload_n hx hb dX7_test_37 rfl (lv_at hl 1 rfl) ?_
        refine s_callv (runV cf (m_next (ik := ik) (ky := ky) (wt := wt) (bg0 := nI (bgA tf tp q1_.1)) (tk0 := tkA tf tp q1_.1) (va0 := vaA tf tp q1_.1) (cd0 := nI q1_.2.1.length) (wo0 := nI q1_.2.2.1) (op0 := nI o) (nt0 := nI nn) (wr0 := if q1_.2.2.2 = true then 1 else 0) (tf := tf) (at_ := atA tf tp q1_.1) (bw := bwA tf tp q1_.1) (tp := tp) htp (lxs_rng q1_.1).2.1 (by have := (lxs_rng (tf := tf) (tp := tp) q1_.1).2.2.1; omega)) hw [0, 1] (by decide) rfl km_X7_next ki_X7_next q1268 (run_recv (ci := 7) (T := TX7) (N := 39) hw 0 rfl rfl) rfl (rok_of (by omega) (by decide) (by decide) (by decide)) hl.1 rfl dX7_test_38) hw [0, 1] (by decide) rfl (fun _ => rfl) (fun u_24 H locs hp_25 hw => ?_)
        have hw : WD g A s H locs [bO a 7 (mF ad ik (nI tp) (nI (lexF tf tp (atA tf tp q1_.1) (bwA tf tp q1_.1)).2.1) (nI (lexF tf tp (atA tf tp q1_.1) (bwA tf tp q1_.1)).1) ((lexF tf tp (atA tf tp q1_.1) (bwA tf tp q1_.1)).2.2.2.1) ((lexF tf tp (atA tf tp q1_.1) (bwA tf tp q1_.1)).2.2.2.2) (nI q1_.2.1.length) (nI q1_.2.2.1) ky (nI o) (nI nn) (if q1_.2.2.2 = true then 1 else 0) (nI (lexF tf tp (atA tf tp q1_.1) (bwA tf tp q1_.1)).2.2.1) wt), bI g (ad 10) 96 tf, bI g (ad 23) 96 u_1] := hw
        have hw : WD g A s H locs [bO a 7 (mF ad ik (nI tp) (nI (atA tf tp (nxF q1_).1)) (nI (bgA tf tp (nxF q1_).1)) (tkA tf tp (nxF q1_).1) (vaA tf tp (nxF q1_).1) (nI q1_.2.1.length) (nI q1_.2.2.1) ky (nI o) (nI nn) (if q1_.2.2.2 = true then 1 else 0) (nI (bwA tf tp (nxF q1_).1)) wt), bI g (ad 10) 96 tf, bI g (ad 23) 96 u_1] := by rw [nx_eq] at hw; exact hw
        have hw : WD g A s H locs [bO a 7 (mF ad ik (nI tp) (nI (atA tf tp (nxF q1_).1)) (nI (bgA tf tp (nxF q1_).1)) (tkA tf tp (nxF q1_).1) (vaA tf tp (nxF q1_).1) (nI (nxF q1_).2.1.length) (nI (nxF q1_).2.2.1) ky (nI o) (nI nn) (if (nxF q1_).2.2.2 = true then 1 else 0) (nI (bwA tf tp (nxF q1_).1)) wt), bI g (ad 10) 96 tf, bI g (ad 23) 96 u_1] := hw
        refine lv_aload_n hx hb dX7_test_41 rfl (lv_at hl 1 rfl) ?_
        refine s_callv (runV cf (hP (nxF q1_) u_1 (show CR _ q1_.2.1 from hcq1_) (hkq1_.nx hsg.1) (fun z => hN (hbq1_ z))) hw [0, 1, 2] (by decide) rfl km_X7_sum ki_X7_sum q1300 (run_recv (ci := 7) (T := TX7) (N := 39) hw 0 rfl rfl) rfl (rok_of (by omega) (by decide) (by decide) (by decide)) hl.1 rfl dX7_test_42) hw [0, 1, 2] (by decide) rfl (fun _ => rfl) (fun u_26 H locs hp_27 hw => ?_)
        have hw : WD g A s H locs [bO a 7 (mF ad ik (nI tp) (nI (atA tf tp (sumG tf tp pc (nxF q1_)).1)) (nI (bgA tf tp (sumG tf tp pc (nxF q1_)).1)) (tkA tf tp (sumG tf tp pc (nxF q1_)).1) (vaA tf tp (sumG tf tp pc (nxF q1_)).1) (nI (sumG tf tp pc (nxF q1_)).2.1.length) (nI (sumG tf tp pc (nxF q1_)).2.2.1) ky (nI o) (nI nn) (if (sumG tf tp pc (nxF q1_)).2.2.2 = true then 1 else 0) (nI (bwA tf tp (sumG tf tp pc (nxF q1_)).1)) wt), bI g (ad 10) 96 tf, bI g (ad 23) 96 u_26] := hw
        obtain ⟨q4_, hq4_⟩ : ∃ z, z = sumG tf tp pc (nxF q1_) := ⟨_, rfl⟩
        have hw : WD g A s H locs [bO a 7 (mF ad ik (nI tp) (nI (atA tf tp q4_.1)) (nI (bgA tf tp q4_.1)) (tkA tf tp q4_.1) (vaA tf tp q4_.1) (nI q4_.2.1.length) (nI q4_.2.2.1) ky (nI o) (nI nn) (if q4_.2.2.2 = true then 1 else 0) (nI (bwA tf tp q4_.1)) wt), bI g (ad 10) 96 tf, bI g (ad 23) 96 u_26] := by rw [hq4_]; exact hw
        have hcq4_ : CR u_26 q4_.2.1 := by rw [hq4_]; exact hp_27
        have hgq4_ : Gn tf tp (nxF q1_) q4_ := by rw [hq4_]; exact hG _
        refine lv_aload_n hx hb dX7_test_45 rfl (lv_at hl 1 rfl) ?_
        refine lv_sipush (v := 20000) hx hb dX7_test_46 (by decide) ?_
        refine lv_iload_n hx hb dX7_test_49 rfl (lv_at hl 0 rfl) ?_
        refine lv_iadd hx hb dX7_test_50 ?_
        refine s_callv (runV cf (m_lays (ik := ik) (ky := ky) (wt := wt) (tf := tf) (tp := tp) htp (o := o) (nn := nn) q4_ (cz := u_26) (rm_lt htp (hkq1_.rm hsg.1 hgq4_)) (20000 + ((vaA tf tp q1_.1 : Int64).toInt32))) hw [0, 2] (by decide) rfl km_X7_lays ki_X7_lays q1316 (run_recv (ci := 7) (T := TX7) (N := 39) hw 0 rfl rfl) rfl (rok_of (by omega) (by decide) (by decide) (by decide)) hl.1 rfl dX7_test_51) hw [0, 2] (by decide) rfl (fun _ => rfl) (fun u_28 H locs hp_29 hw => ?_)
        have hw : WD g A s H locs [bO a 7 (mF ad ik (nI tp) (nI (atA tf tp (layF (20000 + ((vaA tf tp q1_.1 : Int64).toInt32)) q4_).1)) (nI (bgA tf tp (layF (20000 + ((vaA tf tp q1_.1 : Int64).toInt32)) q4_).1)) (tkA tf tp (layF (20000 + ((vaA tf tp q1_.1 : Int64).toInt32)) q4_).1) (vaA tf tp (layF (20000 + ((vaA tf tp q1_.1 : Int64).toInt32)) q4_).1) (nI (layF (20000 + ((vaA tf tp q1_.1 : Int64).toInt32)) q4_).2.1.length) (nI (layF (20000 + ((vaA tf tp q1_.1 : Int64).toInt32)) q4_).2.2.1) ky (nI o) (nI nn) (if (layF (20000 + ((vaA tf tp q1_.1 : Int64).toInt32)) q4_).2.2.2 = true then 1 else 0) (nI (bwA tf tp (layF (20000 + ((vaA tf tp q1_.1 : Int64).toInt32)) q4_).1)) wt), bI g (ad 10) 96 tf, bI g (ad 23) 96 (if q4_.2.2.2 = true then u_26 else upd u_26 q4_.2.1.length (20000 + ((vaA tf tp q1_.1 : Int64).toInt32)))] := hw
        have hcl : CR _ (layF (20000 + ((vaA tf tp q1_.1 : Int64).toInt32)) q4_).2.1 := CR.lay hcq4_
        have e : testG tf tp pc q = (layF (20000 + ((vaA tf tp q1_.1 : Int64).toInt32)) q4_) := by unfold testG; rw [← hq1_, if_pos hisq, ← hq4_]; rfl
        exact s_vret cf hr hlk (if q4_.2.2.2 = true then u_26 else upd u_26 q4_.2.1.length (20000 + ((vaA tf tp q1_.1 : Int64).toInt32))) (by rw [e]; exact hw) (by rw [e]; exact hcl) (Nat.le_of_ble_eq_true rfl) (Nat.le_of_ble_eq_true rfl) dX7_test_54 hQ
set_option maxRecDepth 100000 in
set_option maxHeartbeats 4000000 in
theorem m_piece_s {l : Launch} {g : GG} {a : Nat} {ad : Nat → Nat} {ik ky wt : Int32} {tf : DD} {tp : Nat} (htp : tp ≤ 96) {f : Nat} (hP : ∀ o nn : Nat, SbC l g yX7_piece cX7_piece 3 (6 * f + 6) a ad ik ky wt tf tp o nn (NN f o nn) (pieceF tf tp ky f o nn)) (hW : ∀ o nn : Nat, SbC l g yX7_whole cX7_whole 1 (6 * f + 11) a ad ik ky wt tf tp o nn (NN f o nn) (wholeG tf tp (pieceF tf tp ky f o nn))) (o nn : Nat) (q : PS) (cz : DD) (hcr : CR cz q.2.1) (hok : okQ tf tp q) (hN : q.2.2.2 = false → NN (f + 1) o nn) : Ct l g yX7_piece cX7_piece 3 (Option.none : Option Jvm.ClassFile.FieldType) (6 * f + 12) 0 0 [.ref a] [bO a 7 (mF ad ik (nI tp) (nI (atA tf tp q.1)) (nI (bgA tf tp q.1)) (tkA tf tp q.1) (vaA tf tp q.1) (nI q.2.1.length) (nI q.2.2.1) ky (nI o) (nI nn) (if q.2.2.2 = true then 1 else 0) (nI (bwA tf tp q.1)) wt), bI g (ad 10) 96 tf, bI g (ad 23) 96 cz] (QV g (fun (u : DD) => CR u (pieceF tf tp ky (f + 1) o nn q).2.1) (fun u => [bO a 7 (mF ad ik (nI tp) (nI (atA tf tp (pieceF tf tp ky (f + 1) o nn q).1)) (nI (bgA tf tp (pieceF tf tp ky (f + 1) o nn q).1)) (tkA tf tp (pieceF tf tp ky (f + 1) o nn q).1) (vaA tf tp (pieceF tf tp ky (f + 1) o nn q).1) (nI (pieceF tf tp ky (f + 1) o nn q).2.1.length) (nI (pieceF tf tp ky (f + 1) o nn q).2.2.1) ky (nI o) (nI nn) (if (pieceF tf tp ky (f + 1) o nn q).2.2.2 = true then 1 else 0) (nI (bwA tf tp (pieceF tf tp ky (f + 1) o nn q).1)) wt), bI g (ad 10) 96 tf, bI g (ad 23) 96 u])) := by
  refine Ct.of (by decide) rfl ?_
  intro p e s m args below meth c A H locs ls Qf cf hr hlk hnm hQ hw hl
  have hx := cf.1
  have hb := cf.2.1
  have hml := cf.2.2.1
  have hown := cf.2.2.2.1
  have hts := cf.2.2.2.2
  have hw : WD g A s H locs [bO a 7 (mF ad ik (nI tp) (nI (atA tf tp q.1)) (nI (bgA tf tp q.1)) (tkA tf tp q.1) (vaA tf tp q.1) (nI q.2.1.length) (nI q.2.2.1) ky (nI o) (nI nn) (if q.2.2.2 = true then 1 else 0) (nI (bwA tf tp q.1)) wt), bI g (ad 10) 96 tf, bI g (ad 23) 96 cz] := hw
  have hl : lv_has ls 3 [(0, .ref a)] := hl
  refine lv_aload_n hx hb dX7_piece_0 rfl (lv_at hl 0 rfl) ?_
  refine s_get (v := .int (if q.2.2.2 = true then 1 else 0)) fb7 cf hw 0 rfl 21 rfl q942 rfl dX7_piece_1 ?_
  refine lv_if_eq (tgt := 8) hx hb dX7_piece_4 (by decide) (fun c4 => ?_) (fun c4 => ?_)
  · have c4 := b01_z c4
    have hnb : ¬ q.2.2.2 = true := c4
    refine lv_aload_n hx hb dX7_piece_8 rfl (lv_at hl 0 rfl) ?_
    refine lv_bipush (v := 33) hx hb dX7_piece_9 (by decide) ?_
    refine s_calli (runV cf (m_isSign (ik := ik) (ky := ky) (wt := wt) (tf := tf) (tp := tp) htp (o := o) (nn := nn) q 33) hw [0] (by decide) rfl km_X7_isSign ki_X7_isSign q1312 (run_recv (ci := 7) (T := TX7) (N := 39) hw 0 rfl rfl) rfl (rok_of (by omega) (by decide) (by decide) (by decide)) hl.1 rfl dX7_piece_11) hw [0] (by decide) rfl (fun _ => rfl) (fun r_3 u_1 H locs hp_2 hw => ?_)
    have hw : WD g A s H locs [bO a 7 (mF ad ik (nI tp) (nI (atA tf tp q.1)) (nI (bgA tf tp q.1)) (tkA tf tp q.1) (vaA tf tp q.1) (nI q.2.1.length) (nI q.2.2.1) ky (nI o) (nI nn) (if q.2.2.2 = true then 1 else 0) (nI (bwA tf tp q.1)) wt), bI g (ad 10) 96 tf, bI g (ad 23) 96 cz] := hw
    subst hp_2
    refine lv_if_eq (tgt := 69) hx hb dX7_piece_14 (by decide) (fun c14 => ?_) (fun c14 => ?_)
    · have c14 := b01_z c14
      refine lv_aload_n hx hb dX7_piece_69 rfl (lv_at hl 0 rfl) ?_
      refine lv_bipush (v := 40) hx hb dX7_piece_70 (by decide) ?_
      refine s_calli (runV cf (m_isSign (ik := ik) (ky := ky) (wt := wt) (tf := tf) (tp := tp) htp (o := o) (nn := nn) q 40) hw [0] (by decide) rfl km_X7_isSign ki_X7_isSign q1312 (run_recv (ci := 7) (T := TX7) (N := 39) hw 0 rfl rfl) rfl (rok_of (by omega) (by decide) (by decide) (by decide)) hl.1 rfl dX7_piece_72) hw [0] (by decide) rfl (fun _ => rfl) (fun r_6 u_4 H locs hp_5 hw => ?_)
      have hw : WD g A s H locs [bO a 7 (mF ad ik (nI tp) (nI (atA tf tp q.1)) (nI (bgA tf tp q.1)) (tkA tf tp q.1) (vaA tf tp q.1) (nI q.2.1.length) (nI q.2.2.1) ky (nI o) (nI nn) (if q.2.2.2 = true then 1 else 0) (nI (bwA tf tp q.1)) wt), bI g (ad 10) 96 tf, bI g (ad 23) 96 cz] := hw
      subst hp_5
      refine lv_if_eq (tgt := 133) hx hb dX7_piece_75 (by decide) (fun c75 => ?_) (fun c75 => ?_)
      · have c75 := b01_z c75
        refine lv_aload_n hx hb dX7_piece_133 rfl (lv_at hl 0 rfl) ?_
        refine s_calli (runV cf (m_nameHere (ik := ik) (ky := ky) (wt := wt) (tf := tf) (tp := tp) htp (o := o) (nn := nn) q) hw [0] (by decide) rfl km_X7_nameHere ki_X7_nameHere q1320 (run_recv (ci := 7) (T := TX7) (N := 39) hw 0 rfl rfl) rfl (rok_of (by omega) (by decide) (by decide) (by decide)) hl.1 rfl dX7_piece_134) hw [0] (by decide) rfl (fun _ => rfl) (fun r_9 u_7 H locs hp_8 hw => ?_)
        have hw : WD g A s H locs [bO a 7 (mF ad ik (nI tp) (nI (atA tf tp q.1)) (nI (bgA tf tp q.1)) (tkA tf tp q.1) (vaA tf tp q.1) (nI q.2.1.length) (nI q.2.2.1) ky (nI o) (nI nn) (if q.2.2.2 = true then 1 else 0) (nI (bwA tf tp q.1)) wt), bI g (ad 10) 96 tf, bI g (ad 23) 96 cz] := hw
        subst hp_8
        refine lv_istore_n (lv' := [(1, .int (nameF ky (tkA tf tp q.1) (vaA tf tp q.1))), (0, .ref a)]) hx hb dX7_piece_137 rfl hl (by decide) rfl (fun ls hl => ?_)
        refine lv_aload_n hx hb dX7_piece_138 rfl (lv_at hl 1 rfl) ?_
        refine s_get (v := .int (tkA tf tp q.1)) fb7 cf hw 0 rfl 14 rfl q935 rfl dX7_piece_139 ?_
        refine lv_iconst (v := 2) hx hb dX7_piece_142 (by decide) ?_
        refine lv_icmp_ne (tgt := 161) hx hb dX7_piece_143 (by decide) (fun c143 => ?_) (fun c143 => ?_)
        · have hnum : ¬ numP (tkA tf tp q.1) (vaA tf tp q.1) := fun z => c143 z.1
          refine lv_iconst (v := 0) hx hb dX7_piece_161 (by decide) ?_
          refine lv_istore_n (lv' := [(2, .int 0), (1, .int (nameF ky (tkA tf tp q.1) (vaA tf tp q.1))), (0, .ref a)]) hx hb dX7_piece_162 rfl hl (by decide) rfl (fun ls hl => ?_)
          refine lv_aload_n hx hb dX7_piece_163 rfl (lv_at hl 2 rfl) ?_
          refine lv_iload_n hx hb dX7_piece_164 rfl (lv_at hl 0 rfl) ?_
          refine lv_if_eq (tgt := 176) hx hb dX7_piece_165 (by decide) (fun c165 => ?_) (fun c165 => ?_)
          · refine lv_sipush (v := 10000) hx hb dX7_piece_176 (by decide) ?_
            refine lv_iload_n hx hb dX7_piece_179 rfl (lv_at hl 1 rfl) ?_
            refine lv_iadd hx hb dX7_piece_180 ?_
            refine s_callv (runV cf (m_lays (ik := ik) (ky := ky) (wt := wt) (tf := tf) (tp := tp) htp (o := o) (nn := nn) q (cz := cz) (fun z => by have h1 := hok z; have h2 := bg_tp (tf := tf) (tp := tp) q.1; omega) (10000 + (nameF ky (tkA tf tp q.1) (vaA tf tp q.1)))) hw [0, 2] (by decide) rfl km_X7_lays ki_X7_lays q1316 (run_recv (ci := 7) (T := TX7) (N := 39) hw 0 rfl rfl) rfl (rok_of (by omega) (by decide) (by decide) (by decide)) hl.1 rfl dX7_piece_181) hw [0, 2] (by decide) rfl (fun _ => rfl) (fun u_10 H locs hp_11 hw => ?_)
            have hw : WD g A s H locs [bO a 7 (mF ad ik (nI tp) (nI (atA tf tp (layF (10000 + (nameF ky (tkA tf tp q.1) (vaA tf tp q.1))) q).1)) (nI (bgA tf tp (layF (10000 + (nameF ky (tkA tf tp q.1) (vaA tf tp q.1))) q).1)) (tkA tf tp (layF (10000 + (nameF ky (tkA tf tp q.1) (vaA tf tp q.1))) q).1) (vaA tf tp (layF (10000 + (nameF ky (tkA tf tp q.1) (vaA tf tp q.1))) q).1) (nI (layF (10000 + (nameF ky (tkA tf tp q.1) (vaA tf tp q.1))) q).2.1.length) (nI (layF (10000 + (nameF ky (tkA tf tp q.1) (vaA tf tp q.1))) q).2.2.1) ky (nI o) (nI nn) (if (layF (10000 + (nameF ky (tkA tf tp q.1) (vaA tf tp q.1))) q).2.2.2 = true then 1 else 0) (nI (bwA tf tp (layF (10000 + (nameF ky (tkA tf tp q.1) (vaA tf tp q.1))) q).1)) wt), bI g (ad 10) 96 tf, bI g (ad 23) 96 (if q.2.2.2 = true then cz else upd cz q.2.1.length (10000 + (nameF ky (tkA tf tp q.1) (vaA tf tp q.1))))] := hw
            have hcl : CR _ (layF (10000 + (nameF ky (tkA tf tp q.1) (vaA tf tp q.1))) q).2.1 := CR.lay hcr
            have elay : layF (10000 + (nameF ky (tkA tf tp q.1) (vaA tf tp q.1))) q = (q.1, q.2.1 ++ [(10000 + (nameF ky (tkA tf tp q.1) (vaA tf tp q.1)))], q.2.2.1, false) := if_neg hnb
            have hw : WD g A s H locs [bO a 7 (mF ad ik (nI tp) (nI (atA tf tp q.1)) (nI (bgA tf tp q.1)) (tkA tf tp q.1) (vaA tf tp q.1) (nI (q.2.1 ++ [(10000 + (nameF ky (tkA tf tp q.1) (vaA tf tp q.1)))]).length) (nI q.2.2.1) ky (nI o) (nI nn) 0 (nI (bwA tf tp q.1)) wt), bI g (ad 10) 96 tf, bI g (ad 23) 96 (if q.2.2.2 = true then cz else upd cz q.2.1.length (10000 + (nameF ky (tkA tf tp q.1) (vaA tf tp q.1))))] := by rw [elay] at hw; exact hw
            rw [elay] at hcl
            refine lv_aload_n hx hb dX7_piece_184 rfl (lv_at hl 2 rfl) ?_
            refine lv_dup hx hb dX7_piece_185 rfl ?_
            refine s_get (v := .int (nI q.2.2.1)) fb7 cf hw 0 rfl 17 rfl q938 rfl dX7_piece_186 ?_
            refine lv_aload_n hx hb dX7_piece_189 rfl (lv_at hl 2 rfl) ?_
            refine s_get (v := .int 0) fb7 cf hw 0 rfl 21 rfl q942 rfl dX7_piece_190 ?_
            refine lv_if_eq (tgt := 200) hx hb dX7_piece_193 (by decide) (fun c193 => ?_) (fun c193 => ?_)
            · refine lv_iconst (v := 1) hx hb dX7_piece_200 (by decide) ?_
              refine lv_iadd hx hb dX7_piece_201 ?_
              refine lv_topr (y := nI (q.2.2.1 + 1)) (nI_1 q.2.2.1) ?_
              refine s_put (v := .int (nI (q.2.2.1 + 1))) fb7 cf hw 0 rfl 17 rfl q938 rfl rfl rfl rfl dX7_piece_202 (fun H locs hw => ?_)
              have hw : WD g A s H locs [bO a 7 (mF ad ik (nI tp) (nI (atA tf tp q.1)) (nI (bgA tf tp q.1)) (tkA tf tp q.1) (vaA tf tp q.1) (nI (q.2.1 ++ [(10000 + (nameF ky (tkA tf tp q.1) (vaA tf tp q.1)))]).length) (nI (q.2.2.1 + 1)) ky (nI o) (nI nn) 0 (nI (bwA tf tp q.1)) wt), bI g (ad 10) 96 tf, bI g (ad 23) 96 (if q.2.2.2 = true then cz else upd cz q.2.1.length (10000 + (nameF ky (tkA tf tp q.1) (vaA tf tp q.1))))] := hw
              refine lv_aload_n hx hb dX7_piece_205 rfl (lv_at hl 2 rfl) ?_
              refine lv_iload_n hx hb dX7_piece_206 rfl (lv_at hl 0 rfl) ?_
              refine lv_if_ne (tgt := 214) hx hb dX7_piece_207 (by decide) (fun c207 => ?_) (fun c207 => ?_)
              · exact absurd c207 (by decide)
              · refine lv_iload_n hx hb dX7_piece_210 rfl (lv_at hl 1 rfl) ?_
                refine lv_if_lt (tgt := 218) hx hb dX7_piece_211 (by decide) (fun c211 => ?_) (fun c211 => ?_)
                · refine lv_iconst (v := 0) hx hb dX7_piece_218 (by decide) ?_
                  have hw : WD g A s H locs [bO a 7 (mF ad ik (nI tp) (nI (atA tf tp (q.1, q.2.1 ++ [(10000 + (nameF ky (tkA tf tp q.1) (vaA tf tp q.1)))], q.2.2.1 + 1, false).1)) (nI (bgA tf tp (q.1, q.2.1 ++ [(10000 + (nameF ky (tkA tf tp q.1) (vaA tf tp q.1)))], q.2.2.1 + 1, false).1)) (tkA tf tp (q.1, q.2.1 ++ [(10000 + (nameF ky (tkA tf tp q.1) (vaA tf tp q.1)))], q.2.2.1 + 1, false).1) (vaA tf tp (q.1, q.2.1 ++ [(10000 + (nameF ky (tkA tf tp q.1) (vaA tf tp q.1)))], q.2.2.1 + 1, false).1) (nI (q.1, q.2.1 ++ [(10000 + (nameF ky (tkA tf tp q.1) (vaA tf tp q.1)))], q.2.2.1 + 1, false).2.1.length) (nI (q.1, q.2.1 ++ [(10000 + (nameF ky (tkA tf tp q.1) (vaA tf tp q.1)))], q.2.2.1 + 1, false).2.2.1) ky (nI o) (nI nn) (if (q.1, q.2.1 ++ [(10000 + (nameF ky (tkA tf tp q.1) (vaA tf tp q.1)))], q.2.2.1 + 1, false).2.2.2 = true then 1 else 0) (nI (bwA tf tp (q.1, q.2.1 ++ [(10000 + (nameF ky (tkA tf tp q.1) (vaA tf tp q.1)))], q.2.2.1 + 1, false).1)) wt), bI g (ad 10) 96 tf, bI g (ad 23) 96 (if q.2.2.2 = true then cz else upd cz q.2.1.length (10000 + (nameF ky (tkA tf tp q.1) (vaA tf tp q.1))))] := hw
                  refine s_callv (runV cf (m_goesBy (ik := ik) (ky := ky) (wt := wt) (tf := tf) (tp := tp) htp (o := o) (nn := nn) (q.1, q.2.1 ++ [(10000 + (nameF ky (tkA tf tp q.1) (vaA tf tp q.1)))], q.2.2.1 + 1, false) 0) hw [0, 1] (by decide) rfl km_X7_goesBy ki_X7_goesBy q1284 (run_recv (ci := 7) (T := TX7) (N := 39) hw 0 rfl rfl) rfl (rok_of (by omega) (by decide) (by decide) (by decide)) hl.1 rfl dX7_piece_219) hw [0, 1] (by decide) rfl (fun _ => rfl) (fun u_12 H locs hp_13 hw => ?_)
                  have hw : WD g A s H locs [bO a 7 (mF ad ik (nI tp) (nI (atA tf tp (goF (¬ (0 : Int32) = 0) (q.1, q.2.1 ++ [(10000 + (nameF ky (tkA tf tp q.1) (vaA tf tp q.1)))], q.2.2.1 + 1, false)).1)) (nI (bgA tf tp (goF (¬ (0 : Int32) = 0) (q.1, q.2.1 ++ [(10000 + (nameF ky (tkA tf tp q.1) (vaA tf tp q.1)))], q.2.2.1 + 1, false)).1)) (tkA tf tp (goF (¬ (0 : Int32) = 0) (q.1, q.2.1 ++ [(10000 + (nameF ky (tkA tf tp q.1) (vaA tf tp q.1)))], q.2.2.1 + 1, false)).1) (vaA tf tp (goF (¬ (0 : Int32) = 0) (q.1, q.2.1 ++ [(10000 + (nameF ky (tkA tf tp q.1) (vaA tf tp q.1)))], q.2.2.1 + 1, false)).1) (nI (goF (¬ (0 : Int32) = 0) (q.1, q.2.1 ++ [(10000 + (nameF ky (tkA tf tp q.1) (vaA tf tp q.1)))], q.2.2.1 + 1, false)).2.1.length) (nI (goF (¬ (0 : Int32) = 0) (q.1, q.2.1 ++ [(10000 + (nameF ky (tkA tf tp q.1) (vaA tf tp q.1)))], q.2.2.1 + 1, false)).2.2.1) ky (nI o) (nI nn) (if (goF (¬ (0 : Int32) = 0) (q.1, q.2.1 ++ [(10000 + (nameF ky (tkA tf tp q.1) (vaA tf tp q.1)))], q.2.2.1 + 1, false)).2.2.2 = true then 1 else 0) (nI (bwA tf tp (goF (¬ (0 : Int32) = 0) (q.1, q.2.1 ++ [(10000 + (nameF ky (tkA tf tp q.1) (vaA tf tp q.1)))], q.2.2.1 + 1, false)).1)) wt), bI g (ad 10) 96 tf, bI g (ad 23) 96 (if q.2.2.2 = true then cz else upd cz q.2.1.length (10000 + (nameF ky (tkA tf tp q.1) (vaA tf tp q.1))))] := hw
                  have ev : (if numP (tkA tf tp q.1) (vaA tf tp q.1) then (vaA tf tp q.1).toInt32 else 10000 + nameF ky (tkA tf tp q.1) (vaA tf tp q.1)) = (10000 + (nameF ky (tkA tf tp q.1) (vaA tf tp q.1))) := if_neg hnum
                  have e : pieceF tf tp ky (f + 1) o nn q = goF (¬ (0 : Int32) = 0) (q.1, q.2.1 ++ [(10000 + (nameF ky (tkA tf tp q.1) (vaA tf tp q.1)))], q.2.2.1 + 1, false) := by unfold pieceF; rw [if_neg hnb, if_neg c14, if_neg c75]; unfold pieceV; rw [ev]; exact (goF_cg (x := ¬ (0 : Int32) = 0) (y := numP (tkA tf tp q.1) (vaA tf tp q.1) ∨ 0 ≤ nameF ky (tkA tf tp q.1) (vaA tf tp q.1)) ⟨fun z => absurd rfl z, fun z => by rcases z with y | y; exact absurd y hnum; exact absurd y (Int32.not_le.mpr c211)⟩).symm
                  exact s_vret cf hr hlk (if q.2.2.2 = true then cz else upd cz q.2.1.length (10000 + (nameF ky (tkA tf tp q.1) (vaA tf tp q.1)))) (by rw [e]; exact hw) (by rw [e, go_cs]; exact hcl) (Nat.le_of_ble_eq_true rfl) (Nat.le_of_ble_eq_true rfl) dX7_piece_222 hQ
                · refine lv_iconst (v := 1) hx hb dX7_piece_214 (by decide) ?_
                  refine lv_goto (tgt := 219) hx hb dX7_piece_215 (by decide) ?_
                  have hw : WD g A s H locs [bO a 7 (mF ad ik (nI tp) (nI (atA tf tp (q.1, q.2.1 ++ [(10000 + (nameF ky (tkA tf tp q.1) (vaA tf tp q.1)))], q.2.2.1 + 1, false).1)) (nI (bgA tf tp (q.1, q.2.1 ++ [(10000 + (nameF ky (tkA tf tp q.1) (vaA tf tp q.1)))], q.2.2.1 + 1, false).1)) (tkA tf tp (q.1, q.2.1 ++ [(10000 + (nameF ky (tkA tf tp q.1) (vaA tf tp q.1)))], q.2.2.1 + 1, false).1) (vaA tf tp (q.1, q.2.1 ++ [(10000 + (nameF ky (tkA tf tp q.1) (vaA tf tp q.1)))], q.2.2.1 + 1, false).1) (nI (q.1, q.2.1 ++ [(10000 + (nameF ky (tkA tf tp q.1) (vaA tf tp q.1)))], q.2.2.1 + 1, false).2.1.length) (nI (q.1, q.2.1 ++ [(10000 + (nameF ky (tkA tf tp q.1) (vaA tf tp q.1)))], q.2.2.1 + 1, false).2.2.1) ky (nI o) (nI nn) (if (q.1, q.2.1 ++ [(10000 + (nameF ky (tkA tf tp q.1) (vaA tf tp q.1)))], q.2.2.1 + 1, false).2.2.2 = true then 1 else 0) (nI (bwA tf tp (q.1, q.2.1 ++ [(10000 + (nameF ky (tkA tf tp q.1) (vaA tf tp q.1)))], q.2.2.1 + 1, false).1)) wt), bI g (ad 10) 96 tf, bI g (ad 23) 96 (if q.2.2.2 = true then cz else upd cz q.2.1.length (10000 + (nameF ky (tkA tf tp q.1) (vaA tf tp q.1))))] := hw
                  refine s_callv (runV cf (m_goesBy (ik := ik) (ky := ky) (wt := wt) (tf := tf) (tp := tp) htp (o := o) (nn := nn) (q.1, q.2.1 ++ [(10000 + (nameF ky (tkA tf tp q.1) (vaA tf tp q.1)))], q.2.2.1 + 1, false) 1) hw [0, 1] (by decide) rfl km_X7_goesBy ki_X7_goesBy q1284 (run_recv (ci := 7) (T := TX7) (N := 39) hw 0 rfl rfl) rfl (rok_of (by omega) (by decide) (by decide) (by decide)) hl.1 rfl dX7_piece_219) hw [0, 1] (by decide) rfl (fun _ => rfl) (fun u_14 H locs hp_15 hw => ?_)
                  have hw : WD g A s H locs [bO a 7 (mF ad ik (nI tp) (nI (atA tf tp (goF (¬ (1 : Int32) = 0) (q.1, q.2.1 ++ [(10000 + (nameF ky (tkA tf tp q.1) (vaA tf tp q.1)))], q.2.2.1 + 1, false)).1)) (nI (bgA tf tp (goF (¬ (1 : Int32) = 0) (q.1, q.2.1 ++ [(10000 + (nameF ky (tkA tf tp q.1) (vaA tf tp q.1)))], q.2.2.1 + 1, false)).1)) (tkA tf tp (goF (¬ (1 : Int32) = 0) (q.1, q.2.1 ++ [(10000 + (nameF ky (tkA tf tp q.1) (vaA tf tp q.1)))], q.2.2.1 + 1, false)).1) (vaA tf tp (goF (¬ (1 : Int32) = 0) (q.1, q.2.1 ++ [(10000 + (nameF ky (tkA tf tp q.1) (vaA tf tp q.1)))], q.2.2.1 + 1, false)).1) (nI (goF (¬ (1 : Int32) = 0) (q.1, q.2.1 ++ [(10000 + (nameF ky (tkA tf tp q.1) (vaA tf tp q.1)))], q.2.2.1 + 1, false)).2.1.length) (nI (goF (¬ (1 : Int32) = 0) (q.1, q.2.1 ++ [(10000 + (nameF ky (tkA tf tp q.1) (vaA tf tp q.1)))], q.2.2.1 + 1, false)).2.2.1) ky (nI o) (nI nn) (if (goF (¬ (1 : Int32) = 0) (q.1, q.2.1 ++ [(10000 + (nameF ky (tkA tf tp q.1) (vaA tf tp q.1)))], q.2.2.1 + 1, false)).2.2.2 = true then 1 else 0) (nI (bwA tf tp (goF (¬ (1 : Int32) = 0) (q.1, q.2.1 ++ [(10000 + (nameF ky (tkA tf tp q.1) (vaA tf tp q.1)))], q.2.2.1 + 1, false)).1)) wt), bI g (ad 10) 96 tf, bI g (ad 23) 96 (if q.2.2.2 = true then cz else upd cz q.2.1.length (10000 + (nameF ky (tkA tf tp q.1) (vaA tf tp q.1))))] := hw
                  have ev : (if numP (tkA tf tp q.1) (vaA tf tp q.1) then (vaA tf tp q.1).toInt32 else 10000 + nameF ky (tkA tf tp q.1) (vaA tf tp q.1)) = (10000 + (nameF ky (tkA tf tp q.1) (vaA tf tp q.1))) := if_neg hnum
                  have e : pieceF tf tp ky (f + 1) o nn q = goF (¬ (1 : Int32) = 0) (q.1, q.2.1 ++ [(10000 + (nameF ky (tkA tf tp q.1) (vaA tf tp q.1)))], q.2.2.1 + 1, false) := by unfold pieceF; rw [if_neg hnb, if_neg c14, if_neg c75]; unfold pieceV; rw [ev]; exact (goF_cg (x := ¬ (1 : Int32) = 0) (y := numP (tkA tf tp q.1) (vaA tf tp q.1) ∨ 0 ≤ nameF ky (tkA tf tp q.1) (vaA tf tp q.1)) ⟨fun _ => Or.inr (Int32.not_lt.mp c211), fun _ => by decide⟩).symm
                  exact s_vret cf hr hlk (if q.2.2.2 = true then cz else upd cz q.2.1.length (10000 + (nameF ky (tkA tf tp q.1) (vaA tf tp q.1)))) (by rw [e]; exact hw) (by rw [e, go_cs]; exact hcl) (Nat.le_of_ble_eq_true rfl) (Nat.le_of_ble_eq_true rfl) dX7_piece_222 hQ
            · exact absurd c193 (by decide)
          · exact absurd c165 (by decide)
        · refine lv_aload_n hx hb dX7_piece_146 rfl (lv_at hl 1 rfl) ?_
          refine s_get (v := .long (vaA tf tp q.1)) fb7 cf hw 0 rfl 15 rfl q936 rfl dX7_piece_147 ?_
          refine lv_ldc2 hx hb hown (hts _ q1280) dX7_piece_150 ?_
          refine W.lcmp hx hb dX7_piece_153 ?_
          refine lv_if_ge (tgt := 161) hx hb dX7_piece_154 (by decide) (fun c154 => ?_) (fun c154 => ?_)
          · have hnum : ¬ numP (tkA tf tp q.1) (vaA tf tp q.1) := fun z => absurd ((lg_cmp_lt _ _).mpr z.2) (Int32.not_lt.mpr c154)
            refine lv_iconst (v := 0) hx hb dX7_piece_161 (by decide) ?_
            refine lv_istore_n (lv' := [(2, .int 0), (1, .int (nameF ky (tkA tf tp q.1) (vaA tf tp q.1))), (0, .ref a)]) hx hb dX7_piece_162 rfl hl (by decide) rfl (fun ls hl => ?_)
            refine lv_aload_n hx hb dX7_piece_163 rfl (lv_at hl 2 rfl) ?_
            refine lv_iload_n hx hb dX7_piece_164 rfl (lv_at hl 0 rfl) ?_
            refine lv_if_eq (tgt := 176) hx hb dX7_piece_165 (by decide) (fun c165 => ?_) (fun c165 => ?_)
            · refine lv_sipush (v := 10000) hx hb dX7_piece_176 (by decide) ?_
              refine lv_iload_n hx hb dX7_piece_179 rfl (lv_at hl 1 rfl) ?_
              refine lv_iadd hx hb dX7_piece_180 ?_
              refine s_callv (runV cf (m_lays (ik := ik) (ky := ky) (wt := wt) (tf := tf) (tp := tp) htp (o := o) (nn := nn) q (cz := cz) (fun z => by have h1 := hok z; have h2 := bg_tp (tf := tf) (tp := tp) q.1; omega) (10000 + (nameF ky (tkA tf tp q.1) (vaA tf tp q.1)))) hw [0, 2] (by decide) rfl km_X7_lays ki_X7_lays q1316 (run_recv (ci := 7) (T := TX7) (N := 39) hw 0 rfl rfl) rfl (rok_of (by omega) (by decide) (by decide) (by decide)) hl.1 rfl dX7_piece_181) hw [0, 2] (by decide) rfl (fun _ => rfl) (fun u_16 H locs hp_17 hw => ?_)
              have hw : WD g A s H locs [bO a 7 (mF ad ik (nI tp) (nI (atA tf tp (layF (10000 + (nameF ky (tkA tf tp q.1) (vaA tf tp q.1))) q).1)) (nI (bgA tf tp (layF (10000 + (nameF ky (tkA tf tp q.1) (vaA tf tp q.1))) q).1)) (tkA tf tp (layF (10000 + (nameF ky (tkA tf tp q.1) (vaA tf tp q.1))) q).1) (vaA tf tp (layF (10000 + (nameF ky (tkA tf tp q.1) (vaA tf tp q.1))) q).1) (nI (layF (10000 + (nameF ky (tkA tf tp q.1) (vaA tf tp q.1))) q).2.1.length) (nI (layF (10000 + (nameF ky (tkA tf tp q.1) (vaA tf tp q.1))) q).2.2.1) ky (nI o) (nI nn) (if (layF (10000 + (nameF ky (tkA tf tp q.1) (vaA tf tp q.1))) q).2.2.2 = true then 1 else 0) (nI (bwA tf tp (layF (10000 + (nameF ky (tkA tf tp q.1) (vaA tf tp q.1))) q).1)) wt), bI g (ad 10) 96 tf, bI g (ad 23) 96 (if q.2.2.2 = true then cz else upd cz q.2.1.length (10000 + (nameF ky (tkA tf tp q.1) (vaA tf tp q.1))))] := hw
              have hcl : CR _ (layF (10000 + (nameF ky (tkA tf tp q.1) (vaA tf tp q.1))) q).2.1 := CR.lay hcr
              have elay : layF (10000 + (nameF ky (tkA tf tp q.1) (vaA tf tp q.1))) q = (q.1, q.2.1 ++ [(10000 + (nameF ky (tkA tf tp q.1) (vaA tf tp q.1)))], q.2.2.1, false) := if_neg hnb
              have hw : WD g A s H locs [bO a 7 (mF ad ik (nI tp) (nI (atA tf tp q.1)) (nI (bgA tf tp q.1)) (tkA tf tp q.1) (vaA tf tp q.1) (nI (q.2.1 ++ [(10000 + (nameF ky (tkA tf tp q.1) (vaA tf tp q.1)))]).length) (nI q.2.2.1) ky (nI o) (nI nn) 0 (nI (bwA tf tp q.1)) wt), bI g (ad 10) 96 tf, bI g (ad 23) 96 (if q.2.2.2 = true then cz else upd cz q.2.1.length (10000 + (nameF ky (tkA tf tp q.1) (vaA tf tp q.1))))] := by rw [elay] at hw; exact hw
              rw [elay] at hcl
              refine lv_aload_n hx hb dX7_piece_184 rfl (lv_at hl 2 rfl) ?_
              refine lv_dup hx hb dX7_piece_185 rfl ?_
              refine s_get (v := .int (nI q.2.2.1)) fb7 cf hw 0 rfl 17 rfl q938 rfl dX7_piece_186 ?_
              refine lv_aload_n hx hb dX7_piece_189 rfl (lv_at hl 2 rfl) ?_
              refine s_get (v := .int 0) fb7 cf hw 0 rfl 21 rfl q942 rfl dX7_piece_190 ?_
              refine lv_if_eq (tgt := 200) hx hb dX7_piece_193 (by decide) (fun c193 => ?_) (fun c193 => ?_)
              · refine lv_iconst (v := 1) hx hb dX7_piece_200 (by decide) ?_
                refine lv_iadd hx hb dX7_piece_201 ?_
                refine lv_topr (y := nI (q.2.2.1 + 1)) (nI_1 q.2.2.1) ?_
                refine s_put (v := .int (nI (q.2.2.1 + 1))) fb7 cf hw 0 rfl 17 rfl q938 rfl rfl rfl rfl dX7_piece_202 (fun H locs hw => ?_)
                have hw : WD g A s H locs [bO a 7 (mF ad ik (nI tp) (nI (atA tf tp q.1)) (nI (bgA tf tp q.1)) (tkA tf tp q.1) (vaA tf tp q.1) (nI (q.2.1 ++ [(10000 + (nameF ky (tkA tf tp q.1) (vaA tf tp q.1)))]).length) (nI (q.2.2.1 + 1)) ky (nI o) (nI nn) 0 (nI (bwA tf tp q.1)) wt), bI g (ad 10) 96 tf, bI g (ad 23) 96 (if q.2.2.2 = true then cz else upd cz q.2.1.length (10000 + (nameF ky (tkA tf tp q.1) (vaA tf tp q.1))))] := hw
                refine lv_aload_n hx hb dX7_piece_205 rfl (lv_at hl 2 rfl) ?_
                refine lv_iload_n hx hb dX7_piece_206 rfl (lv_at hl 0 rfl) ?_
                refine lv_if_ne (tgt := 214) hx hb dX7_piece_207 (by decide) (fun c207 => ?_) (fun c207 => ?_)
                · exact absurd c207 (by decide)
                · refine lv_iload_n hx hb dX7_piece_210 rfl (lv_at hl 1 rfl) ?_
                  refine lv_if_lt (tgt := 218) hx hb dX7_piece_211 (by decide) (fun c211 => ?_) (fun c211 => ?_)
                  · refine lv_iconst (v := 0) hx hb dX7_piece_218 (by decide) ?_
                    have hw : WD g A s H locs [bO a 7 (mF ad ik (nI tp) (nI (atA tf tp (q.1, q.2.1 ++ [(10000 + (nameF ky (tkA tf tp q.1) (vaA tf tp q.1)))], q.2.2.1 + 1, false).1)) (nI (bgA tf tp (q.1, q.2.1 ++ [(10000 + (nameF ky (tkA tf tp q.1) (vaA tf tp q.1)))], q.2.2.1 + 1, false).1)) (tkA tf tp (q.1, q.2.1 ++ [(10000 + (nameF ky (tkA tf tp q.1) (vaA tf tp q.1)))], q.2.2.1 + 1, false).1) (vaA tf tp (q.1, q.2.1 ++ [(10000 + (nameF ky (tkA tf tp q.1) (vaA tf tp q.1)))], q.2.2.1 + 1, false).1) (nI (q.1, q.2.1 ++ [(10000 + (nameF ky (tkA tf tp q.1) (vaA tf tp q.1)))], q.2.2.1 + 1, false).2.1.length) (nI (q.1, q.2.1 ++ [(10000 + (nameF ky (tkA tf tp q.1) (vaA tf tp q.1)))], q.2.2.1 + 1, false).2.2.1) ky (nI o) (nI nn) (if (q.1, q.2.1 ++ [(10000 + (nameF ky (tkA tf tp q.1) (vaA tf tp q.1)))], q.2.2.1 + 1, false).2.2.2 = true then 1 else 0) (nI (bwA tf tp (q.1, q.2.1 ++ [(10000 + (nameF ky (tkA tf tp q.1) (vaA tf tp q.1)))], q.2.2.1 + 1, false).1)) wt), bI g (ad 10) 96 tf, bI g (ad 23) 96 (if q.2.2.2 = true then cz else upd cz q.2.1.length (10000 + (nameF ky (tkA tf tp q.1) (vaA tf tp q.1))))] := hw
                    refine s_callv (runV cf (m_goesBy (ik := ik) (ky := ky) (wt := wt) (tf := tf) (tp := tp) htp (o := o) (nn := nn) (q.1, q.2.1 ++ [(10000 + (nameF ky (tkA tf tp q.1) (vaA tf tp q.1)))], q.2.2.1 + 1, false) 0) hw [0, 1] (by decide) rfl km_X7_goesBy ki_X7_goesBy q1284 (run_recv (ci := 7) (T := TX7) (N := 39) hw 0 rfl rfl) rfl (rok_of (by omega) (by decide) (by decide) (by decide)) hl.1 rfl dX7_piece_219) hw [0, 1] (by decide) rfl (fun _ => rfl) (fun u_18 H locs hp_19 hw => ?_)
                    have hw : WD g A s H locs [bO a 7 (mF ad ik (nI tp) (nI (atA tf tp (goF (¬ (0 : Int32) = 0) (q.1, q.2.1 ++ [(10000 + (nameF ky (tkA tf tp q.1) (vaA tf tp q.1)))], q.2.2.1 + 1, false)).1)) (nI (bgA tf tp (goF (¬ (0 : Int32) = 0) (q.1, q.2.1 ++ [(10000 + (nameF ky (tkA tf tp q.1) (vaA tf tp q.1)))], q.2.2.1 + 1, false)).1)) (tkA tf tp (goF (¬ (0 : Int32) = 0) (q.1, q.2.1 ++ [(10000 + (nameF ky (tkA tf tp q.1) (vaA tf tp q.1)))], q.2.2.1 + 1, false)).1) (vaA tf tp (goF (¬ (0 : Int32) = 0) (q.1, q.2.1 ++ [(10000 + (nameF ky (tkA tf tp q.1) (vaA tf tp q.1)))], q.2.2.1 + 1, false)).1) (nI (goF (¬ (0 : Int32) = 0) (q.1, q.2.1 ++ [(10000 + (nameF ky (tkA tf tp q.1) (vaA tf tp q.1)))], q.2.2.1 + 1, false)).2.1.length) (nI (goF (¬ (0 : Int32) = 0) (q.1, q.2.1 ++ [(10000 + (nameF ky (tkA tf tp q.1) (vaA tf tp q.1)))], q.2.2.1 + 1, false)).2.2.1) ky (nI o) (nI nn) (if (goF (¬ (0 : Int32) = 0) (q.1, q.2.1 ++ [(10000 + (nameF ky (tkA tf tp q.1) (vaA tf tp q.1)))], q.2.2.1 + 1, false)).2.2.2 = true then 1 else 0) (nI (bwA tf tp (goF (¬ (0 : Int32) = 0) (q.1, q.2.1 ++ [(10000 + (nameF ky (tkA tf tp q.1) (vaA tf tp q.1)))], q.2.2.1 + 1, false)).1)) wt), bI g (ad 10) 96 tf, bI g (ad 23) 96 (if q.2.2.2 = true then cz else upd cz q.2.1.length (10000 + (nameF ky (tkA tf tp q.1) (vaA tf tp q.1))))] := hw
                    have ev : (if numP (tkA tf tp q.1) (vaA tf tp q.1) then (vaA tf tp q.1).toInt32 else 10000 + nameF ky (tkA tf tp q.1) (vaA tf tp q.1)) = (10000 + (nameF ky (tkA tf tp q.1) (vaA tf tp q.1))) := if_neg hnum
                    have e : pieceF tf tp ky (f + 1) o nn q = goF (¬ (0 : Int32) = 0) (q.1, q.2.1 ++ [(10000 + (nameF ky (tkA tf tp q.1) (vaA tf tp q.1)))], q.2.2.1 + 1, false) := by unfold pieceF; rw [if_neg hnb, if_neg c14, if_neg c75]; unfold pieceV; rw [ev]; exact (goF_cg (x := ¬ (0 : Int32) = 0) (y := numP (tkA tf tp q.1) (vaA tf tp q.1) ∨ 0 ≤ nameF ky (tkA tf tp q.1) (vaA tf tp q.1)) ⟨fun z => absurd rfl z, fun z => by rcases z with y | y; exact absurd y hnum; exact absurd y (Int32.not_le.mpr c211)⟩).symm
                    exact s_vret cf hr hlk (if q.2.2.2 = true then cz else upd cz q.2.1.length (10000 + (nameF ky (tkA tf tp q.1) (vaA tf tp q.1)))) (by rw [e]; exact hw) (by rw [e, go_cs]; exact hcl) (Nat.le_of_ble_eq_true rfl) (Nat.le_of_ble_eq_true rfl) dX7_piece_222 hQ
                  · refine lv_iconst (v := 1) hx hb dX7_piece_214 (by decide) ?_
                    refine lv_goto (tgt := 219) hx hb dX7_piece_215 (by decide) ?_
                    have hw : WD g A s H locs [bO a 7 (mF ad ik (nI tp) (nI (atA tf tp (q.1, q.2.1 ++ [(10000 + (nameF ky (tkA tf tp q.1) (vaA tf tp q.1)))], q.2.2.1 + 1, false).1)) (nI (bgA tf tp (q.1, q.2.1 ++ [(10000 + (nameF ky (tkA tf tp q.1) (vaA tf tp q.1)))], q.2.2.1 + 1, false).1)) (tkA tf tp (q.1, q.2.1 ++ [(10000 + (nameF ky (tkA tf tp q.1) (vaA tf tp q.1)))], q.2.2.1 + 1, false).1) (vaA tf tp (q.1, q.2.1 ++ [(10000 + (nameF ky (tkA tf tp q.1) (vaA tf tp q.1)))], q.2.2.1 + 1, false).1) (nI (q.1, q.2.1 ++ [(10000 + (nameF ky (tkA tf tp q.1) (vaA tf tp q.1)))], q.2.2.1 + 1, false).2.1.length) (nI (q.1, q.2.1 ++ [(10000 + (nameF ky (tkA tf tp q.1) (vaA tf tp q.1)))], q.2.2.1 + 1, false).2.2.1) ky (nI o) (nI nn) (if (q.1, q.2.1 ++ [(10000 + (nameF ky (tkA tf tp q.1) (vaA tf tp q.1)))], q.2.2.1 + 1, false).2.2.2 = true then 1 else 0) (nI (bwA tf tp (q.1, q.2.1 ++ [(10000 + (nameF ky (tkA tf tp q.1) (vaA tf tp q.1)))], q.2.2.1 + 1, false).1)) wt), bI g (ad 10) 96 tf, bI g (ad 23) 96 (if q.2.2.2 = true then cz else upd cz q.2.1.length (10000 + (nameF ky (tkA tf tp q.1) (vaA tf tp q.1))))] := hw
                    refine s_callv (runV cf (m_goesBy (ik := ik) (ky := ky) (wt := wt) (tf := tf) (tp := tp) htp (o := o) (nn := nn) (q.1, q.2.1 ++ [(10000 + (nameF ky (tkA tf tp q.1) (vaA tf tp q.1)))], q.2.2.1 + 1, false) 1) hw [0, 1] (by decide) rfl km_X7_goesBy ki_X7_goesBy q1284 (run_recv (ci := 7) (T := TX7) (N := 39) hw 0 rfl rfl) rfl (rok_of (by omega) (by decide) (by decide) (by decide)) hl.1 rfl dX7_piece_219) hw [0, 1] (by decide) rfl (fun _ => rfl) (fun u_20 H locs hp_21 hw => ?_)
                    have hw : WD g A s H locs [bO a 7 (mF ad ik (nI tp) (nI (atA tf tp (goF (¬ (1 : Int32) = 0) (q.1, q.2.1 ++ [(10000 + (nameF ky (tkA tf tp q.1) (vaA tf tp q.1)))], q.2.2.1 + 1, false)).1)) (nI (bgA tf tp (goF (¬ (1 : Int32) = 0) (q.1, q.2.1 ++ [(10000 + (nameF ky (tkA tf tp q.1) (vaA tf tp q.1)))], q.2.2.1 + 1, false)).1)) (tkA tf tp (goF (¬ (1 : Int32) = 0) (q.1, q.2.1 ++ [(10000 + (nameF ky (tkA tf tp q.1) (vaA tf tp q.1)))], q.2.2.1 + 1, false)).1) (vaA tf tp (goF (¬ (1 : Int32) = 0) (q.1, q.2.1 ++ [(10000 + (nameF ky (tkA tf tp q.1) (vaA tf tp q.1)))], q.2.2.1 + 1, false)).1) (nI (goF (¬ (1 : Int32) = 0) (q.1, q.2.1 ++ [(10000 + (nameF ky (tkA tf tp q.1) (vaA tf tp q.1)))], q.2.2.1 + 1, false)).2.1.length) (nI (goF (¬ (1 : Int32) = 0) (q.1, q.2.1 ++ [(10000 + (nameF ky (tkA tf tp q.1) (vaA tf tp q.1)))], q.2.2.1 + 1, false)).2.2.1) ky (nI o) (nI nn) (if (goF (¬ (1 : Int32) = 0) (q.1, q.2.1 ++ [(10000 + (nameF ky (tkA tf tp q.1) (vaA tf tp q.1)))], q.2.2.1 + 1, false)).2.2.2 = true then 1 else 0) (nI (bwA tf tp (goF (¬ (1 : Int32) = 0) (q.1, q.2.1 ++ [(10000 + (nameF ky (tkA tf tp q.1) (vaA tf tp q.1)))], q.2.2.1 + 1, false)).1)) wt), bI g (ad 10) 96 tf, bI g (ad 23) 96 (if q.2.2.2 = true then cz else upd cz q.2.1.length (10000 + (nameF ky (tkA tf tp q.1) (vaA tf tp q.1))))] := hw
                    have ev : (if numP (tkA tf tp q.1) (vaA tf tp q.1) then (vaA tf tp q.1).toInt32 else 10000 + nameF ky (tkA tf tp q.1) (vaA tf tp q.1)) = (10000 + (nameF ky (tkA tf tp q.1) (vaA tf tp q.1))) := if_neg hnum
                    have e : pieceF tf tp ky (f + 1) o nn q = goF (¬ (1 : Int32) = 0) (q.1, q.2.1 ++ [(10000 + (nameF ky (tkA tf tp q.1) (vaA tf tp q.1)))], q.2.2.1 + 1, false) := by unfold pieceF; rw [if_neg hnb, if_neg c14, if_neg c75]; unfold pieceV; rw [ev]; exact (goF_cg (x := ¬ (1 : Int32) = 0) (y := numP (tkA tf tp q.1) (vaA tf tp q.1) ∨ 0 ≤ nameF ky (tkA tf tp q.1) (vaA tf tp q.1)) ⟨fun _ => Or.inr (Int32.not_lt.mp c211), fun _ => by decide⟩).symm
                    exact s_vret cf hr hlk (if q.2.2.2 = true then cz else upd cz q.2.1.length (10000 + (nameF ky (tkA tf tp q.1) (vaA tf tp q.1)))) (by rw [e]; exact hw) (by rw [e, go_cs]; exact hcl) (Nat.le_of_ble_eq_true rfl) (Nat.le_of_ble_eq_true rfl) dX7_piece_222 hQ
              · exact absurd c193 (by decide)
            · exact absurd c165 (by decide)
          · have hnum : numP (tkA tf tp q.1) (vaA tf tp q.1) := ⟨c143, (lg_cmp_lt _ _).mp (Int32.not_le.mp c154)⟩
            refine lv_iconst (v := 1) hx hb dX7_piece_157 (by decide) ?_
            refine lv_goto (tgt := 162) hx hb dX7_piece_158 (by decide) ?_
            refine lv_istore_n (lv' := [(2, .int 1), (1, .int (nameF ky (tkA tf tp q.1) (vaA tf tp q.1))), (0, .ref a)]) hx hb dX7_piece_162 rfl hl (by decide) rfl (fun ls hl => ?_)
            refine lv_aload_n hx hb dX7_piece_163 rfl (lv_at hl 2 rfl) ?_
            refine lv_iload_n hx hb dX7_piece_164 rfl (lv_at hl 0 rfl) ?_
            refine lv_if_eq (tgt := 176) hx hb dX7_piece_165 (by decide) (fun c165 => ?_) (fun c165 => ?_)
            · exact absurd c165 (by decide)
            · refine lv_aload_n hx hb dX7_piece_168 rfl (lv_at hl 2 rfl) ?_
              refine s_get (v := .long (vaA tf tp q.1)) fb7 cf hw 0 rfl 15 rfl q936 rfl dX7_piece_169 ?_
              refine lv_l2i (v := (vaA tf tp q.1 : Int64).toInt32) hx hb dX7_piece_172 rfl ?_
              refine lv_goto (tgt := 181) hx hb dX7_piece_173 (by decide) ?_
              refine s_callv (runV cf (m_lays (ik := ik) (ky := ky) (wt := wt) (tf := tf) (tp := tp) htp (o := o) (nn := nn) q (cz := cz) (fun z => by have h1 := hok z; have h2 := bg_tp (tf := tf) (tp := tp) q.1; omega) ((vaA tf tp q.1 : Int64).toInt32)) hw [0, 2] (by decide) rfl km_X7_lays ki_X7_lays q1316 (run_recv (ci := 7) (T := TX7) (N := 39) hw 0 rfl rfl) rfl (rok_of (by omega) (by decide) (by decide) (by decide)) hl.1 rfl dX7_piece_181) hw [0, 2] (by decide) rfl (fun _ => rfl) (fun u_22 H locs hp_23 hw => ?_)
              have hw : WD g A s H locs [bO a 7 (mF ad ik (nI tp) (nI (atA tf tp (layF ((vaA tf tp q.1 : Int64).toInt32) q).1)) (nI (bgA tf tp (layF ((vaA tf tp q.1 : Int64).toInt32) q).1)) (tkA tf tp (layF ((vaA tf tp q.1 : Int64).toInt32) q).1) (vaA tf tp (layF ((vaA tf tp q.1 : Int64).toInt32) q).1) (nI (layF ((vaA tf tp q.1 : Int64).toInt32) q).2.1.length) (nI (layF ((vaA tf tp q.1 : Int64).toInt32) q).2.2.1) ky (nI o) (nI nn) (if (layF ((vaA tf tp q.1 : Int64).toInt32) q).2.2.2 = true then 1 else 0) (nI (bwA tf tp (layF ((vaA tf tp q.1 : Int64).toInt32) q).1)) wt), bI g (ad 10) 96 tf, bI g (ad 23) 96 (if q.2.2.2 = true then cz else upd cz q.2.1.length ((vaA tf tp q.1 : Int64).toInt32))] := hw
              have hcl : CR _ (layF ((vaA tf tp q.1 : Int64).toInt32) q).2.1 := CR.lay hcr
              have elay : layF ((vaA tf tp q.1 : Int64).toInt32) q = (q.1, q.2.1 ++ [((vaA tf tp q.1 : Int64).toInt32)], q.2.2.1, false) := if_neg hnb
              have hw : WD g A s H locs [bO a 7 (mF ad ik (nI tp) (nI (atA tf tp q.1)) (nI (bgA tf tp q.1)) (tkA tf tp q.1) (vaA tf tp q.1) (nI (q.2.1 ++ [((vaA tf tp q.1 : Int64).toInt32)]).length) (nI q.2.2.1) ky (nI o) (nI nn) 0 (nI (bwA tf tp q.1)) wt), bI g (ad 10) 96 tf, bI g (ad 23) 96 (if q.2.2.2 = true then cz else upd cz q.2.1.length ((vaA tf tp q.1 : Int64).toInt32))] := by rw [elay] at hw; exact hw
              rw [elay] at hcl
              refine lv_aload_n hx hb dX7_piece_184 rfl (lv_at hl 2 rfl) ?_
              refine lv_dup hx hb dX7_piece_185 rfl ?_
              refine s_get (v := .int (nI q.2.2.1)) fb7 cf hw 0 rfl 17 rfl q938 rfl dX7_piece_186 ?_
              refine lv_aload_n hx hb dX7_piece_189 rfl (lv_at hl 2 rfl) ?_
              refine s_get (v := .int 0) fb7 cf hw 0 rfl 21 rfl q942 rfl dX7_piece_190 ?_
              refine lv_if_eq (tgt := 200) hx hb dX7_piece_193 (by decide) (fun c193 => ?_) (fun c193 => ?_)
              · refine lv_iconst (v := 1) hx hb dX7_piece_200 (by decide) ?_
                refine lv_iadd hx hb dX7_piece_201 ?_
                refine lv_topr (y := nI (q.2.2.1 + 1)) (nI_1 q.2.2.1) ?_
                refine s_put (v := .int (nI (q.2.2.1 + 1))) fb7 cf hw 0 rfl 17 rfl q938 rfl rfl rfl rfl dX7_piece_202 (fun H locs hw => ?_)
                have hw : WD g A s H locs [bO a 7 (mF ad ik (nI tp) (nI (atA tf tp q.1)) (nI (bgA tf tp q.1)) (tkA tf tp q.1) (vaA tf tp q.1) (nI (q.2.1 ++ [((vaA tf tp q.1 : Int64).toInt32)]).length) (nI (q.2.2.1 + 1)) ky (nI o) (nI nn) 0 (nI (bwA tf tp q.1)) wt), bI g (ad 10) 96 tf, bI g (ad 23) 96 (if q.2.2.2 = true then cz else upd cz q.2.1.length ((vaA tf tp q.1 : Int64).toInt32))] := hw
                refine lv_aload_n hx hb dX7_piece_205 rfl (lv_at hl 2 rfl) ?_
                refine lv_iload_n hx hb dX7_piece_206 rfl (lv_at hl 0 rfl) ?_
                refine lv_if_ne (tgt := 214) hx hb dX7_piece_207 (by decide) (fun c207 => ?_) (fun c207 => ?_)
                · refine lv_iconst (v := 1) hx hb dX7_piece_214 (by decide) ?_
                  refine lv_goto (tgt := 219) hx hb dX7_piece_215 (by decide) ?_
                  have hw : WD g A s H locs [bO a 7 (mF ad ik (nI tp) (nI (atA tf tp (q.1, q.2.1 ++ [((vaA tf tp q.1 : Int64).toInt32)], q.2.2.1 + 1, false).1)) (nI (bgA tf tp (q.1, q.2.1 ++ [((vaA tf tp q.1 : Int64).toInt32)], q.2.2.1 + 1, false).1)) (tkA tf tp (q.1, q.2.1 ++ [((vaA tf tp q.1 : Int64).toInt32)], q.2.2.1 + 1, false).1) (vaA tf tp (q.1, q.2.1 ++ [((vaA tf tp q.1 : Int64).toInt32)], q.2.2.1 + 1, false).1) (nI (q.1, q.2.1 ++ [((vaA tf tp q.1 : Int64).toInt32)], q.2.2.1 + 1, false).2.1.length) (nI (q.1, q.2.1 ++ [((vaA tf tp q.1 : Int64).toInt32)], q.2.2.1 + 1, false).2.2.1) ky (nI o) (nI nn) (if (q.1, q.2.1 ++ [((vaA tf tp q.1 : Int64).toInt32)], q.2.2.1 + 1, false).2.2.2 = true then 1 else 0) (nI (bwA tf tp (q.1, q.2.1 ++ [((vaA tf tp q.1 : Int64).toInt32)], q.2.2.1 + 1, false).1)) wt), bI g (ad 10) 96 tf, bI g (ad 23) 96 (if q.2.2.2 = true then cz else upd cz q.2.1.length ((vaA tf tp q.1 : Int64).toInt32))] := hw
                  refine s_callv (runV cf (m_goesBy (ik := ik) (ky := ky) (wt := wt) (tf := tf) (tp := tp) htp (o := o) (nn := nn) (q.1, q.2.1 ++ [((vaA tf tp q.1 : Int64).toInt32)], q.2.2.1 + 1, false) 1) hw [0, 1] (by decide) rfl km_X7_goesBy ki_X7_goesBy q1284 (run_recv (ci := 7) (T := TX7) (N := 39) hw 0 rfl rfl) rfl (rok_of (by omega) (by decide) (by decide) (by decide)) hl.1 rfl dX7_piece_219) hw [0, 1] (by decide) rfl (fun _ => rfl) (fun u_24 H locs hp_25 hw => ?_)
                  have hw : WD g A s H locs [bO a 7 (mF ad ik (nI tp) (nI (atA tf tp (goF (¬ (1 : Int32) = 0) (q.1, q.2.1 ++ [((vaA tf tp q.1 : Int64).toInt32)], q.2.2.1 + 1, false)).1)) (nI (bgA tf tp (goF (¬ (1 : Int32) = 0) (q.1, q.2.1 ++ [((vaA tf tp q.1 : Int64).toInt32)], q.2.2.1 + 1, false)).1)) (tkA tf tp (goF (¬ (1 : Int32) = 0) (q.1, q.2.1 ++ [((vaA tf tp q.1 : Int64).toInt32)], q.2.2.1 + 1, false)).1) (vaA tf tp (goF (¬ (1 : Int32) = 0) (q.1, q.2.1 ++ [((vaA tf tp q.1 : Int64).toInt32)], q.2.2.1 + 1, false)).1) (nI (goF (¬ (1 : Int32) = 0) (q.1, q.2.1 ++ [((vaA tf tp q.1 : Int64).toInt32)], q.2.2.1 + 1, false)).2.1.length) (nI (goF (¬ (1 : Int32) = 0) (q.1, q.2.1 ++ [((vaA tf tp q.1 : Int64).toInt32)], q.2.2.1 + 1, false)).2.2.1) ky (nI o) (nI nn) (if (goF (¬ (1 : Int32) = 0) (q.1, q.2.1 ++ [((vaA tf tp q.1 : Int64).toInt32)], q.2.2.1 + 1, false)).2.2.2 = true then 1 else 0) (nI (bwA tf tp (goF (¬ (1 : Int32) = 0) (q.1, q.2.1 ++ [((vaA tf tp q.1 : Int64).toInt32)], q.2.2.1 + 1, false)).1)) wt), bI g (ad 10) 96 tf, bI g (ad 23) 96 (if q.2.2.2 = true then cz else upd cz q.2.1.length ((vaA tf tp q.1 : Int64).toInt32))] := hw
                  have ev : (if numP (tkA tf tp q.1) (vaA tf tp q.1) then (vaA tf tp q.1).toInt32 else 10000 + nameF ky (tkA tf tp q.1) (vaA tf tp q.1)) = ((vaA tf tp q.1 : Int64).toInt32) := if_pos hnum
                  have e : pieceF tf tp ky (f + 1) o nn q = goF (¬ (1 : Int32) = 0) (q.1, q.2.1 ++ [((vaA tf tp q.1 : Int64).toInt32)], q.2.2.1 + 1, false) := by unfold pieceF; rw [if_neg hnb, if_neg c14, if_neg c75]; unfold pieceV; rw [ev]; exact (goF_cg (x := ¬ (1 : Int32) = 0) (y := numP (tkA tf tp q.1) (vaA tf tp q.1) ∨ 0 ≤ nameF ky (tkA tf tp q.1) (vaA tf tp q.1)) ⟨fun _ => Or.inl hnum, fun _ => by decide⟩).symm
                  exact s_vret cf hr hlk (if q.2.2.2 = true then cz else upd cz q.2.1.length ((vaA tf tp q.1 : Int64).toInt32)) (by rw [e]; exact hw) (by rw [e, go_cs]; exact hcl) (Nat.le_of_ble_eq_true rfl) (Nat.le_of_ble_eq_true rfl) dX7_piece_222 hQ
                · exact absurd c207 (by decide)
              · exact absurd c193 (by decide)
      · have c75 := b01_n c75
        have hsg := c75
        refine lv_aload_n hx hb dX7_piece_78 rfl (lv_at hl 0 rfl) ?_
        refine lv_aload_n hx hb dX7_piece_79 rfl (lv_at hl 0 rfl) ?_
        refine s_get (v := .int (nI o)) fb7 cf hw 0 rfl 19 rfl q940 rfl dX7_piece_80 ?_
        refine lv_bipush (v := 8) hx hb dX7_piece_83 (by decide) ?_
        refine lv_icmp_ge (tgt := 92) hx hb dX7_piece_85 (by decide) (fun c85 => ?_) (fun c85 => ?_)
        · have hlim : ¬ o < 8 := fun z => absurd (nI_le_of (n := 8) (by omega) c85 (by omega)) (by omega)
          refine lv_iconst (v := 0) hx hb dX7_piece_92 (by decide) ?_
          refine s_callv (runV cf (m_goesBy (ik := ik) (ky := ky) (wt := wt) (tf := tf) (tp := tp) htp (o := o) (nn := nn) q 0) hw [0, 1] (by decide) rfl km_X7_goesBy ki_X7_goesBy q1284 (run_recv (ci := 7) (T := TX7) (N := 39) hw 0 rfl rfl) rfl (rok_of (by omega) (by decide) (by decide) (by decide)) hl.1 rfl dX7_piece_93) hw [0, 1] (by decide) rfl (fun _ => rfl) (fun u_26 H locs hp_27 hw => ?_)
          have hw : WD g A s H locs [bO a 7 (mF ad ik (nI tp) (nI (atA tf tp (goF (¬ (0 : Int32) = 0) q).1)) (nI (bgA tf tp (goF (¬ (0 : Int32) = 0) q).1)) (tkA tf tp (goF (¬ (0 : Int32) = 0) q).1) (vaA tf tp (goF (¬ (0 : Int32) = 0) q).1) (nI (goF (¬ (0 : Int32) = 0) q).2.1.length) (nI (goF (¬ (0 : Int32) = 0) q).2.2.1) ky (nI o) (nI nn) (if (goF (¬ (0 : Int32) = 0) q).2.2.2 = true then 1 else 0) (nI (bwA tf tp (goF (¬ (0 : Int32) = 0) q).1)) wt), bI g (ad 10) 96 tf, bI g (ad 23) 96 cz] := hw
          have ego : goF (¬ (0 : Int32) = 0) q = goF (o < 8) q := goF_cg ⟨fun z => absurd rfl z, fun z => absurd z hlim⟩
          have hw : WD g A s H locs [bO a 7 (mF ad ik (nI tp) (nI (atA tf tp (goF (o < 8) q).1)) (nI (bgA tf tp (goF (o < 8) q).1)) (tkA tf tp (goF (o < 8) q).1) (vaA tf tp (goF (o < 8) q).1) (nI (goF (o < 8) q).2.1.length) (nI (goF (o < 8) q).2.2.1) ky (nI o) (nI nn) (if (goF (o < 8) q).2.2.2 = true then 1 else 0) (nI (bwA tf tp (goF (o < 8) q).1)) wt), bI g (ad 10) 96 tf, bI g (ad 23) 96 cz] := by rw [← ego]; exact hw
          obtain ⟨q1_, hq1_⟩ : ∃ z, z = goF (o < 8) q := ⟨_, rfl⟩
          have hw : WD g A s H locs [bO a 7 (mF ad ik (nI tp) (nI (atA tf tp q1_.1)) (nI (bgA tf tp q1_.1)) (tkA tf tp q1_.1) (vaA tf tp q1_.1) (nI q1_.2.1.length) (nI q1_.2.2.1) ky (nI o) (nI nn) (if q1_.2.2.2 = true then 1 else 0) (nI (bwA tf tp q1_.1)) wt), bI g (ad 10) 96 tf, bI g (ad 23) 96 cz] := by rw [hq1_]; exact hw
          have hcq1_ : CR cz q1_.2.1 := by rw [hq1_, go_cs]; exact hcr
          have hkq1_ : okQ tf tp q1_ := by rw [hq1_]; exact hok.gm hsg.1
          have hnq1_ : q1_.2.2.2 = false → NN f (o + 1) nn := fun z => by have y := go_bad (q := q) (may := o < 8) (by rw [← hq1_]; exact z); have x := hN y.1; obtain ⟨x1, x2, x3⟩ := x; exact ⟨by omega, by omega, by omega⟩
          refine lv_aload_n hx hb dX7_piece_96 rfl (lv_at hl 0 rfl) ?_
          refine lv_dup hx hb dX7_piece_97 rfl ?_
          refine s_get (v := .int (nI o)) fb7 cf hw 0 rfl 19 rfl q940 rfl dX7_piece_98 ?_
          refine lv_iconst (v := 1) hx hb dX7_piece_101 (by decide) ?_
          refine lv_iadd hx hb dX7_piece_102 ?_
          refine lv_topr (y := nI (o + 1)) (nI_1 o) ?_
          refine s_put (v := .int (nI (o + 1))) fb7 cf hw 0 rfl 19 rfl q940 rfl rfl rfl rfl dX7_piece_103 (fun H locs hw => ?_)
          have hw : WD g A s H locs [bO a 7 (mF ad ik (nI tp) (nI (atA tf tp q1_.1)) (nI (bgA tf tp q1_.1)) (tkA tf tp q1_.1) (vaA tf tp q1_.1) (nI q1_.2.1.length) (nI q1_.2.2.1) ky (nI (o + 1)) (nI nn) (if q1_.2.2.2 = true then 1 else 0) (nI (bwA tf tp q1_.1)) wt), bI g (ad 10) 96 tf, bI g (ad 23) 96 cz] := hw
          refine lv_aload_n hx hb dX7_piece_106 rfl (lv_at hl 0 rfl) ?_
          refine s_callv (runV cf (hW (o + 1) nn q1_ cz hcq1_ hkq1_ hnq1_) hw [0, 1, 2] (by decide) rfl km_X7_whole ki_X7_whole q1288 (run_recv (ci := 7) (T := TX7) (N := 39) hw 0 rfl rfl) rfl (rok_of (by omega) (by decide) (by decide) (by decide)) hl.1 rfl dX7_piece_107) hw [0, 1, 2] (by decide) rfl (fun _ => rfl) (fun u_28 H locs hp_29 hw => ?_)
          have hw : WD g A s H locs [bO a 7 (mF ad ik (nI tp) (nI (atA tf tp (wholeG tf tp (pieceF tf tp ky f (o + 1) nn) q1_).1)) (nI (bgA tf tp (wholeG tf tp (pieceF tf tp ky f (o + 1) nn) q1_).1)) (tkA tf tp (wholeG tf tp (pieceF tf tp ky f (o + 1) nn) q1_).1) (vaA tf tp (wholeG tf tp (pieceF tf tp ky f (o + 1) nn) q1_).1) (nI (wholeG tf tp (pieceF tf tp ky f (o + 1) nn) q1_).2.1.length) (nI (wholeG tf tp (pieceF tf tp ky f (o + 1) nn) q1_).2.2.1) ky (nI (o + 1)) (nI nn) (if (wholeG tf tp (pieceF tf tp ky f (o + 1) nn) q1_).2.2.2 = true then 1 else 0) (nI (bwA tf tp (wholeG tf tp (pieceF tf tp ky f (o + 1) nn) q1_).1)) wt), bI g (ad 10) 96 tf, bI g (ad 23) 96 u_28] := hw
          obtain ⟨q2_, hq2_⟩ : ∃ z, z = wholeG tf tp (pieceF tf tp ky f (o + 1) nn) q1_ := ⟨_, rfl⟩
          have hw : WD g A s H locs [bO a 7 (mF ad ik (nI tp) (nI (atA tf tp q2_.1)) (nI (bgA tf tp q2_.1)) (tkA tf tp q2_.1) (vaA tf tp q2_.1) (nI q2_.2.1.length) (nI q2_.2.2.1) ky (nI (o + 1)) (nI nn) (if q2_.2.2.2 = true then 1 else 0) (nI (bwA tf tp q2_.1)) wt), bI g (ad 10) 96 tf, bI g (ad 23) 96 u_28] := by rw [hq2_]; exact hw
          have hcq2_ : CR u_28 q2_.2.1 := by rw [hq2_]; exact hp_29
          refine lv_aload_n hx hb dX7_piece_110 rfl (lv_at hl 0 rfl) ?_
          refine lv_dup hx hb dX7_piece_111 rfl ?_
          refine s_get (v := .int (nI (o + 1))) fb7 cf hw 0 rfl 19 rfl q940 rfl dX7_piece_112 ?_
          refine lv_iconst (v := 1) hx hb dX7_piece_115 (by decide) ?_
          refine lv_isub hx hb dX7_piece_116 ?_
          refine lv_topr (y := nI o) (nI_pred o) ?_
          refine s_put (v := .int (nI o)) fb7 cf hw 0 rfl 19 rfl q940 rfl rfl rfl rfl dX7_piece_117 (fun H locs hw => ?_)
          have hw : WD g A s H locs [bO a 7 (mF ad ik (nI tp) (nI (atA tf tp q2_.1)) (nI (bgA tf tp q2_.1)) (tkA tf tp q2_.1) (vaA tf tp q2_.1) (nI q2_.2.1.length) (nI q2_.2.2.1) ky (nI o) (nI nn) (if q2_.2.2.2 = true then 1 else 0) (nI (bwA tf tp q2_.1)) wt), bI g (ad 10) 96 tf, bI g (ad 23) 96 u_28] := hw
          refine lv_aload_n hx hb dX7_piece_120 rfl (lv_at hl 0 rfl) ?_
          refine lv_aload_n hx hb dX7_piece_121 rfl (lv_at hl 0 rfl) ?_
          refine lv_bipush (v := 41) hx hb dX7_piece_122 (by decide) ?_
          refine s_calli (runV cf (m_isSign (ik := ik) (ky := ky) (wt := wt) (tf := tf) (tp := tp) htp (o := o) (nn := nn) q2_ 41) hw [0] (by decide) rfl km_X7_isSign ki_X7_isSign q1312 (run_recv (ci := 7) (T := TX7) (N := 39) hw 0 rfl rfl) rfl (rok_of (by omega) (by decide) (by decide) (by decide)) hl.1 rfl dX7_piece_124) hw [0] (by decide) rfl (fun _ => rfl) (fun r_32 u_30 H locs hp_31 hw => ?_)
          have hw : WD g A s H locs [bO a 7 (mF ad ik (nI tp) (nI (atA tf tp q2_.1)) (nI (bgA tf tp q2_.1)) (tkA tf tp q2_.1) (vaA tf tp q2_.1) (nI q2_.2.1.length) (nI q2_.2.2.1) ky (nI o) (nI nn) (if q2_.2.2.2 = true then 1 else 0) (nI (bwA tf tp q2_.1)) wt), bI g (ad 10) 96 tf, bI g (ad 23) 96 u_28] := hw
          subst hp_31
          refine s_callv (runV cf (m_goesBy (ik := ik) (ky := ky) (wt := wt) (tf := tf) (tp := tp) htp (o := o) (nn := nn) q2_ (if sgA tf tp 41 q2_ then 1 else 0)) hw [0, 1] (by decide) rfl km_X7_goesBy ki_X7_goesBy q1284 (run_recv (ci := 7) (T := TX7) (N := 39) hw 0 rfl rfl) rfl (rok_of (by omega) (by decide) (by decide) (by decide)) hl.1 rfl dX7_piece_127) hw [0, 1] (by decide) rfl (fun _ => rfl) (fun u_33 H locs hp_34 hw => ?_)
          have hw : WD g A s H locs [bO a 7 (mF ad ik (nI tp) (nI (atA tf tp (goF (¬ ((if sgA tf tp 41 q2_ then 1 else 0) : Int32) = 0) q2_).1)) (nI (bgA tf tp (goF (¬ ((if sgA tf tp 41 q2_ then 1 else 0) : Int32) = 0) q2_).1)) (tkA tf tp (goF (¬ ((if sgA tf tp 41 q2_ then 1 else 0) : Int32) = 0) q2_).1) (vaA tf tp (goF (¬ ((if sgA tf tp 41 q2_ then 1 else 0) : Int32) = 0) q2_).1) (nI (goF (¬ ((if sgA tf tp 41 q2_ then 1 else 0) : Int32) = 0) q2_).2.1.length) (nI (goF (¬ ((if sgA tf tp 41 q2_ then 1 else 0) : Int32) = 0) q2_).2.2.1) ky (nI o) (nI nn) (if (goF (¬ ((if sgA tf tp 41 q2_ then 1 else 0) : Int32) = 0) q2_).2.2.2 = true then 1 else 0) (nI (bwA tf tp (goF (¬ ((if sgA tf tp 41 q2_ then 1 else 0) : Int32) = 0) q2_).1)) wt), bI g (ad 10) 96 tf, bI g (ad 23) 96 u_28] := hw
          refine lv_goto (tgt := 222) hx hb dX7_piece_130 (by decide) ?_
          have e : pieceF tf tp ky (f + 1) o nn q = goF (¬ (if sgA tf tp 41 q2_ then (1 : Int32) else 0) = 0) q2_ := by unfold pieceF; rw [if_neg hnb, if_neg c14, if_pos hsg, ← hq1_, ← hq2_]; exact (goF_cg b01_iff).symm
          exact s_vret cf hr hlk u_28 (by rw [e]; exact hw) (by rw [e, go_cs]; exact hcq2_) (Nat.le_of_ble_eq_true rfl) (Nat.le_of_ble_eq_true rfl) dX7_piece_222 hQ
        · have hlim : o < 8 := nI_lt_of (n := 8) (by have := hN (by simpa using hnb); omega) c85 (by omega)
          refine lv_iconst (v := 1) hx hb dX7_piece_88 (by decide) ?_
          refine lv_goto (tgt := 93) hx hb dX7_piece_89 (by decide) ?_
          refine s_callv (runV cf (m_goesBy (ik := ik) (ky := ky) (wt := wt) (tf := tf) (tp := tp) htp (o := o) (nn := nn) q 1) hw [0, 1] (by decide) rfl km_X7_goesBy ki_X7_goesBy q1284 (run_recv (ci := 7) (T := TX7) (N := 39) hw 0 rfl rfl) rfl (rok_of (by omega) (by decide) (by decide) (by decide)) hl.1 rfl dX7_piece_93) hw [0, 1] (by decide) rfl (fun _ => rfl) (fun u_35 H locs hp_36 hw => ?_)
          have hw : WD g A s H locs [bO a 7 (mF ad ik (nI tp) (nI (atA tf tp (goF (¬ (1 : Int32) = 0) q).1)) (nI (bgA tf tp (goF (¬ (1 : Int32) = 0) q).1)) (tkA tf tp (goF (¬ (1 : Int32) = 0) q).1) (vaA tf tp (goF (¬ (1 : Int32) = 0) q).1) (nI (goF (¬ (1 : Int32) = 0) q).2.1.length) (nI (goF (¬ (1 : Int32) = 0) q).2.2.1) ky (nI o) (nI nn) (if (goF (¬ (1 : Int32) = 0) q).2.2.2 = true then 1 else 0) (nI (bwA tf tp (goF (¬ (1 : Int32) = 0) q).1)) wt), bI g (ad 10) 96 tf, bI g (ad 23) 96 cz] := hw
          have ego : goF (¬ (1 : Int32) = 0) q = goF (o < 8) q := goF_cg ⟨fun _ => hlim, fun _ => by decide⟩
          have hw : WD g A s H locs [bO a 7 (mF ad ik (nI tp) (nI (atA tf tp (goF (o < 8) q).1)) (nI (bgA tf tp (goF (o < 8) q).1)) (tkA tf tp (goF (o < 8) q).1) (vaA tf tp (goF (o < 8) q).1) (nI (goF (o < 8) q).2.1.length) (nI (goF (o < 8) q).2.2.1) ky (nI o) (nI nn) (if (goF (o < 8) q).2.2.2 = true then 1 else 0) (nI (bwA tf tp (goF (o < 8) q).1)) wt), bI g (ad 10) 96 tf, bI g (ad 23) 96 cz] := by rw [← ego]; exact hw
          obtain ⟨q3_, hq3_⟩ : ∃ z, z = goF (o < 8) q := ⟨_, rfl⟩
          have hw : WD g A s H locs [bO a 7 (mF ad ik (nI tp) (nI (atA tf tp q3_.1)) (nI (bgA tf tp q3_.1)) (tkA tf tp q3_.1) (vaA tf tp q3_.1) (nI q3_.2.1.length) (nI q3_.2.2.1) ky (nI o) (nI nn) (if q3_.2.2.2 = true then 1 else 0) (nI (bwA tf tp q3_.1)) wt), bI g (ad 10) 96 tf, bI g (ad 23) 96 cz] := by rw [hq3_]; exact hw
          have hcq3_ : CR cz q3_.2.1 := by rw [hq3_, go_cs]; exact hcr
          have hkq3_ : okQ tf tp q3_ := by rw [hq3_]; exact hok.gm hsg.1
          have hnq3_ : q3_.2.2.2 = false → NN f (o + 1) nn := fun z => by have y := go_bad (q := q) (may := o < 8) (by rw [← hq3_]; exact z); have x := hN y.1; obtain ⟨x1, x2, x3⟩ := x; exact ⟨by omega, by omega, by omega⟩
          refine lv_aload_n hx hb dX7_piece_96 rfl (lv_at hl 0 rfl) ?_
          refine lv_dup hx hb dX7_piece_97 rfl ?_
          refine s_get (v := .int (nI o)) fb7 cf hw 0 rfl 19 rfl q940 rfl dX7_piece_98 ?_
          refine lv_iconst (v := 1) hx hb dX7_piece_101 (by decide) ?_
          refine lv_iadd hx hb dX7_piece_102 ?_
          refine lv_topr (y := nI (o + 1)) (nI_1 o) ?_
          refine s_put (v := .int (nI (o + 1))) fb7 cf hw 0 rfl 19 rfl q940 rfl rfl rfl rfl dX7_piece_103 (fun H locs hw => ?_)
          have hw : WD g A s H locs [bO a 7 (mF ad ik (nI tp) (nI (atA tf tp q3_.1)) (nI (bgA tf tp q3_.1)) (tkA tf tp q3_.1) (vaA tf tp q3_.1) (nI q3_.2.1.length) (nI q3_.2.2.1) ky (nI (o + 1)) (nI nn) (if q3_.2.2.2 = true then 1 else 0) (nI (bwA tf tp q3_.1)) wt), bI g (ad 10) 96 tf, bI g (ad 23) 96 cz] := hw
          refine lv_aload_n hx hb dX7_piece_106 rfl (lv_at hl 0 rfl) ?_
          refine s_callv (runV cf (hW (o + 1) nn q3_ cz hcq3_ hkq3_ hnq3_) hw [0, 1, 2] (by decide) rfl km_X7_whole ki_X7_whole q1288 (run_recv (ci := 7) (T := TX7) (N := 39) hw 0 rfl rfl) rfl (rok_of (by omega) (by decide) (by decide) (by decide)) hl.1 rfl dX7_piece_107) hw [0, 1, 2] (by decide) rfl (fun _ => rfl) (fun u_37 H locs hp_38 hw => ?_)
          have hw : WD g A s H locs [bO a 7 (mF ad ik (nI tp) (nI (atA tf tp (wholeG tf tp (pieceF tf tp ky f (o + 1) nn) q3_).1)) (nI (bgA tf tp (wholeG tf tp (pieceF tf tp ky f (o + 1) nn) q3_).1)) (tkA tf tp (wholeG tf tp (pieceF tf tp ky f (o + 1) nn) q3_).1) (vaA tf tp (wholeG tf tp (pieceF tf tp ky f (o + 1) nn) q3_).1) (nI (wholeG tf tp (pieceF tf tp ky f (o + 1) nn) q3_).2.1.length) (nI (wholeG tf tp (pieceF tf tp ky f (o + 1) nn) q3_).2.2.1) ky (nI (o + 1)) (nI nn) (if (wholeG tf tp (pieceF tf tp ky f (o + 1) nn) q3_).2.2.2 = true then 1 else 0) (nI (bwA tf tp (wholeG tf tp (pieceF tf tp ky f (o + 1) nn) q3_).1)) wt), bI g (ad 10) 96 tf, bI g (ad 23) 96 u_37] := hw
          obtain ⟨q4_, hq4_⟩ : ∃ z, z = wholeG tf tp (pieceF tf tp ky f (o + 1) nn) q3_ := ⟨_, rfl⟩
          have hw : WD g A s H locs [bO a 7 (mF ad ik (nI tp) (nI (atA tf tp q4_.1)) (nI (bgA tf tp q4_.1)) (tkA tf tp q4_.1) (vaA tf tp q4_.1) (nI q4_.2.1.length) (nI q4_.2.2.1) ky (nI (o + 1)) (nI nn) (if q4_.2.2.2 = true then 1 else 0) (nI (bwA tf tp q4_.1)) wt), bI g (ad 10) 96 tf, bI g (ad 23) 96 u_37] := by rw [hq4_]; exact hw
          have hcq4_ : CR u_37 q4_.2.1 := by rw [hq4_]; exact hp_38
          refine lv_aload_n hx hb dX7_piece_110 rfl (lv_at hl 0 rfl) ?_
          refine lv_dup hx hb dX7_piece_111 rfl ?_
          refine s_get (v := .int (nI (o + 1))) fb7 cf hw 0 rfl 19 rfl q940 rfl dX7_piece_112 ?_
          refine lv_iconst (v := 1) hx hb dX7_piece_115 (by decide) ?_
          refine lv_isub hx hb dX7_piece_116 ?_
          refine lv_topr (y := nI o) (nI_pred o) ?_
          refine s_put (v := .int (nI o)) fb7 cf hw 0 rfl 19 rfl q940 rfl rfl rfl rfl dX7_piece_117 (fun H locs hw => ?_)
          have hw : WD g A s H locs [bO a 7 (mF ad ik (nI tp) (nI (atA tf tp q4_.1)) (nI (bgA tf tp q4_.1)) (tkA tf tp q4_.1) (vaA tf tp q4_.1) (nI q4_.2.1.length) (nI q4_.2.2.1) ky (nI o) (nI nn) (if q4_.2.2.2 = true then 1 else 0) (nI (bwA tf tp q4_.1)) wt), bI g (ad 10) 96 tf, bI g (ad 23) 96 u_37] := hw
          refine lv_aload_n hx hb dX7_piece_120 rfl (lv_at hl 0 rfl) ?_
          refine lv_aload_n hx hb dX7_piece_121 rfl (lv_at hl 0 rfl) ?_
          refine lv_bipush (v := 41) hx hb dX7_piece_122 (by decide) ?_
          refine s_calli (runV cf (m_isSign (ik := ik) (ky := ky) (wt := wt) (tf := tf) (tp := tp) htp (o := o) (nn := nn) q4_ 41) hw [0] (by decide) rfl km_X7_isSign ki_X7_isSign q1312 (run_recv (ci := 7) (T := TX7) (N := 39) hw 0 rfl rfl) rfl (rok_of (by omega) (by decide) (by decide) (by decide)) hl.1 rfl dX7_piece_124) hw [0] (by decide) rfl (fun _ => rfl) (fun r_41 u_39 H locs hp_40 hw => ?_)
          have hw : WD g A s H locs [bO a 7 (mF ad ik (nI tp) (nI (atA tf tp q4_.1)) (nI (bgA tf tp q4_.1)) (tkA tf tp q4_.1) (vaA tf tp q4_.1) (nI q4_.2.1.length) (nI q4_.2.2.1) ky (nI o) (nI nn) (if q4_.2.2.2 = true then 1 else 0) (nI (bwA tf tp q4_.1)) wt), bI g (ad 10) 96 tf, bI g (ad 23) 96 u_37] := hw
          subst hp_40
          refine s_callv (runV cf (m_goesBy (ik := ik) (ky := ky) (wt := wt) (tf := tf) (tp := tp) htp (o := o) (nn := nn) q4_ (if sgA tf tp 41 q4_ then 1 else 0)) hw [0, 1] (by decide) rfl km_X7_goesBy ki_X7_goesBy q1284 (run_recv (ci := 7) (T := TX7) (N := 39) hw 0 rfl rfl) rfl (rok_of (by omega) (by decide) (by decide) (by decide)) hl.1 rfl dX7_piece_127) hw [0, 1] (by decide) rfl (fun _ => rfl) (fun u_42 H locs hp_43 hw => ?_)
          have hw : WD g A s H locs [bO a 7 (mF ad ik (nI tp) (nI (atA tf tp (goF (¬ ((if sgA tf tp 41 q4_ then 1 else 0) : Int32) = 0) q4_).1)) (nI (bgA tf tp (goF (¬ ((if sgA tf tp 41 q4_ then 1 else 0) : Int32) = 0) q4_).1)) (tkA tf tp (goF (¬ ((if sgA tf tp 41 q4_ then 1 else 0) : Int32) = 0) q4_).1) (vaA tf tp (goF (¬ ((if sgA tf tp 41 q4_ then 1 else 0) : Int32) = 0) q4_).1) (nI (goF (¬ ((if sgA tf tp 41 q4_ then 1 else 0) : Int32) = 0) q4_).2.1.length) (nI (goF (¬ ((if sgA tf tp 41 q4_ then 1 else 0) : Int32) = 0) q4_).2.2.1) ky (nI o) (nI nn) (if (goF (¬ ((if sgA tf tp 41 q4_ then 1 else 0) : Int32) = 0) q4_).2.2.2 = true then 1 else 0) (nI (bwA tf tp (goF (¬ ((if sgA tf tp 41 q4_ then 1 else 0) : Int32) = 0) q4_).1)) wt), bI g (ad 10) 96 tf, bI g (ad 23) 96 u_37] := hw
          refine lv_goto (tgt := 222) hx hb dX7_piece_130 (by decide) ?_
          have e : pieceF tf tp ky (f + 1) o nn q = goF (¬ (if sgA tf tp 41 q4_ then (1 : Int32) else 0) = 0) q4_ := by unfold pieceF; rw [if_neg hnb, if_neg c14, if_pos hsg, ← hq3_, ← hq4_]; exact (goF_cg b01_iff).symm
          exact s_vret cf hr hlk u_37 (by rw [e]; exact hw) (by rw [e, go_cs]; exact hcq4_) (Nat.le_of_ble_eq_true rfl) (Nat.le_of_ble_eq_true rfl) dX7_piece_222 hQ
    · have c14 := b01_n c14
      have hsg := c14
      refine lv_aload_n hx hb dX7_piece_17 rfl (lv_at hl 0 rfl) ?_
      refine lv_aload_n hx hb dX7_piece_18 rfl (lv_at hl 0 rfl) ?_
      refine s_get (v := .int (nI nn)) fb7 cf hw 0 rfl 20 rfl q941 rfl dX7_piece_19 ?_
      refine lv_bipush (v := 8) hx hb dX7_piece_22 (by decide) ?_
      refine lv_icmp_ge (tgt := 31) hx hb dX7_piece_24 (by decide) (fun c24 => ?_) (fun c24 => ?_)
      · have hlim : ¬ nn < 8 := fun z => absurd (nI_le_of (n := 8) (by omega) c24 (by omega)) (by omega)
        refine lv_iconst (v := 0) hx hb dX7_piece_31 (by decide) ?_
        refine s_callv (runV cf (m_goesBy (ik := ik) (ky := ky) (wt := wt) (tf := tf) (tp := tp) htp (o := o) (nn := nn) q 0) hw [0, 1] (by decide) rfl km_X7_goesBy ki_X7_goesBy q1284 (run_recv (ci := 7) (T := TX7) (N := 39) hw 0 rfl rfl) rfl (rok_of (by omega) (by decide) (by decide) (by decide)) hl.1 rfl dX7_piece_32) hw [0, 1] (by decide) rfl (fun _ => rfl) (fun u_44 H locs hp_45 hw => ?_)
        have hw : WD g A s H locs [bO a 7 (mF ad ik (nI tp) (nI (atA tf tp (goF (¬ (0 : Int32) = 0) q).1)) (nI (bgA tf tp (goF (¬ (0 : Int32) = 0) q).1)) (tkA tf tp (goF (¬ (0 : Int32) = 0) q).1) (vaA tf tp (goF (¬ (0 : Int32) = 0) q).1) (nI (goF (¬ (0 : Int32) = 0) q).2.1.length) (nI (goF (¬ (0 : Int32) = 0) q).2.2.1) ky (nI o) (nI nn) (if (goF (¬ (0 : Int32) = 0) q).2.2.2 = true then 1 else 0) (nI (bwA tf tp (goF (¬ (0 : Int32) = 0) q).1)) wt), bI g (ad 10) 96 tf, bI g (ad 23) 96 cz] := hw
        have ego : goF (¬ (0 : Int32) = 0) q = goF (nn < 8) q := goF_cg ⟨fun z => absurd rfl z, fun z => absurd z hlim⟩
        have hw : WD g A s H locs [bO a 7 (mF ad ik (nI tp) (nI (atA tf tp (goF (nn < 8) q).1)) (nI (bgA tf tp (goF (nn < 8) q).1)) (tkA tf tp (goF (nn < 8) q).1) (vaA tf tp (goF (nn < 8) q).1) (nI (goF (nn < 8) q).2.1.length) (nI (goF (nn < 8) q).2.2.1) ky (nI o) (nI nn) (if (goF (nn < 8) q).2.2.2 = true then 1 else 0) (nI (bwA tf tp (goF (nn < 8) q).1)) wt), bI g (ad 10) 96 tf, bI g (ad 23) 96 cz] := by rw [← ego]; exact hw
        obtain ⟨q5_, hq5_⟩ : ∃ z, z = goF (nn < 8) q := ⟨_, rfl⟩
        have hw : WD g A s H locs [bO a 7 (mF ad ik (nI tp) (nI (atA tf tp q5_.1)) (nI (bgA tf tp q5_.1)) (tkA tf tp q5_.1) (vaA tf tp q5_.1) (nI q5_.2.1.length) (nI q5_.2.2.1) ky (nI o) (nI nn) (if q5_.2.2.2 = true then 1 else 0) (nI (bwA tf tp q5_.1)) wt), bI g (ad 10) 96 tf, bI g (ad 23) 96 cz] := by rw [hq5_]; exact hw
        have hcq5_ : CR cz q5_.2.1 := by rw [hq5_, go_cs]; exact hcr
        have hkq5_ : okQ tf tp q5_ := by rw [hq5_]; exact hok.gm hsg.1
        have hnq5_ : q5_.2.2.2 = false → NN f o (nn + 1) := fun z => by have y := go_bad (q := q) (may := nn < 8) (by rw [← hq5_]; exact z); have x := hN y.1; obtain ⟨x1, x2, x3⟩ := x; exact ⟨by omega, by omega, by omega⟩
        refine lv_aload_n hx hb dX7_piece_35 rfl (lv_at hl 0 rfl) ?_
        refine lv_dup hx hb dX7_piece_36 rfl ?_
        refine s_get (v := .int (nI nn)) fb7 cf hw 0 rfl 20 rfl q941 rfl dX7_piece_37 ?_
        refine lv_iconst (v := 1) hx hb dX7_piece_40 (by decide) ?_
        refine lv_iadd hx hb dX7_piece_41 ?_
        refine lv_topr (y := nI (nn + 1)) (nI_1 nn) ?_
        refine s_put (v := .int (nI (nn + 1))) fb7 cf hw 0 rfl 20 rfl q941 rfl rfl rfl rfl dX7_piece_42 (fun H locs hw => ?_)
        have hw : WD g A s H locs [bO a 7 (mF ad ik (nI tp) (nI (atA tf tp q5_.1)) (nI (bgA tf tp q5_.1)) (tkA tf tp q5_.1) (vaA tf tp q5_.1) (nI q5_.2.1.length) (nI q5_.2.2.1) ky (nI o) (nI (nn + 1)) (if q5_.2.2.2 = true then 1 else 0) (nI (bwA tf tp q5_.1)) wt), bI g (ad 10) 96 tf, bI g (ad 23) 96 cz] := hw
        refine lv_aload_n hx hb dX7_piece_45 rfl (lv_at hl 0 rfl) ?_
        refine s_callv (runV cf (hP o (nn + 1) q5_ cz hcq5_ hkq5_ hnq5_) hw [0, 1, 2] (by decide) rfl km_X7_piece ki_X7_piece q1308 (run_recv (ci := 7) (T := TX7) (N := 39) hw 0 rfl rfl) rfl (rok_of (by omega) (by decide) (by decide) (by decide)) hl.1 rfl dX7_piece_46) hw [0, 1, 2] (by decide) rfl (fun _ => rfl) (fun u_46 H locs hp_47 hw => ?_)
        have hw : WD g A s H locs [bO a 7 (mF ad ik (nI tp) (nI (atA tf tp (pieceF tf tp ky f o (nn + 1) q5_).1)) (nI (bgA tf tp (pieceF tf tp ky f o (nn + 1) q5_).1)) (tkA tf tp (pieceF tf tp ky f o (nn + 1) q5_).1) (vaA tf tp (pieceF tf tp ky f o (nn + 1) q5_).1) (nI (pieceF tf tp ky f o (nn + 1) q5_).2.1.length) (nI (pieceF tf tp ky f o (nn + 1) q5_).2.2.1) ky (nI o) (nI (nn + 1)) (if (pieceF tf tp ky f o (nn + 1) q5_).2.2.2 = true then 1 else 0) (nI (bwA tf tp (pieceF tf tp ky f o (nn + 1) q5_).1)) wt), bI g (ad 10) 96 tf, bI g (ad 23) 96 u_46] := hw
        obtain ⟨q6_, hq6_⟩ : ∃ z, z = pieceF tf tp ky f o (nn + 1) q5_ := ⟨_, rfl⟩
        have hw : WD g A s H locs [bO a 7 (mF ad ik (nI tp) (nI (atA tf tp q6_.1)) (nI (bgA tf tp q6_.1)) (tkA tf tp q6_.1) (vaA tf tp q6_.1) (nI q6_.2.1.length) (nI q6_.2.2.1) ky (nI o) (nI (nn + 1)) (if q6_.2.2.2 = true then 1 else 0) (nI (bwA tf tp q6_.1)) wt), bI g (ad 10) 96 tf, bI g (ad 23) 96 u_46] := by rw [hq6_]; exact hw
        have hcq6_ : CR u_46 q6_.2.1 := by rw [hq6_]; exact hp_47
        have hgq6_ : Gn tf tp (goF (nn < 8) q) q6_ := by rw [hq6_, hq5_]; exact gn_piece _ _ _ _
        refine lv_aload_n hx hb dX7_piece_49 rfl (lv_at hl 0 rfl) ?_
        refine lv_dup hx hb dX7_piece_50 rfl ?_
        refine s_get (v := .int (nI (nn + 1))) fb7 cf hw 0 rfl 20 rfl q941 rfl dX7_piece_51 ?_
        refine lv_iconst (v := 1) hx hb dX7_piece_54 (by decide) ?_
        refine lv_isub hx hb dX7_piece_55 ?_
        refine lv_topr (y := nI nn) (nI_pred nn) ?_
        refine s_put (v := .int (nI nn)) fb7 cf hw 0 rfl 20 rfl q941 rfl rfl rfl rfl dX7_piece_56 (fun H locs hw => ?_)
        have hw : WD g A s H locs [bO a 7 (mF ad ik (nI tp) (nI (atA tf tp q6_.1)) (nI (bgA tf tp q6_.1)) (tkA tf tp q6_.1) (vaA tf tp q6_.1) (nI q6_.2.1.length) (nI q6_.2.2.1) ky (nI o) (nI nn) (if q6_.2.2.2 = true then 1 else 0) (nI (bwA tf tp q6_.1)) wt), bI g (ad 10) 96 tf, bI g (ad 23) 96 u_46] := hw
        refine lv_aload_n hx hb dX7_piece_59 rfl (lv_at hl 0 rfl) ?_
        refine lv_sipush (v := 20033) hx hb dX7_piece_60 (by decide) ?_
        refine s_callv (runV cf (m_lays (ik := ik) (ky := ky) (wt := wt) (tf := tf) (tp := tp) htp (o := o) (nn := nn) q6_ (cz := u_46) (rm_lt htp (hok.go hsg.1 hgq6_)) 20033) hw [0, 2] (by decide) rfl km_X7_lays ki_X7_lays q1316 (run_recv (ci := 7) (T := TX7) (N := 39) hw 0 rfl rfl) rfl (rok_of (by omega) (by decide) (by decide) (by decide)) hl.1 rfl dX7_piece_63) hw [0, 2] (by decide) rfl (fun _ => rfl) (fun u_48 H locs hp_49 hw => ?_)
        have hw : WD g A s H locs [bO a 7 (mF ad ik (nI tp) (nI (atA tf tp (layF 20033 q6_).1)) (nI (bgA tf tp (layF 20033 q6_).1)) (tkA tf tp (layF 20033 q6_).1) (vaA tf tp (layF 20033 q6_).1) (nI (layF 20033 q6_).2.1.length) (nI (layF 20033 q6_).2.2.1) ky (nI o) (nI nn) (if (layF 20033 q6_).2.2.2 = true then 1 else 0) (nI (bwA tf tp (layF 20033 q6_).1)) wt), bI g (ad 10) 96 tf, bI g (ad 23) 96 (if q6_.2.2.2 = true then u_46 else upd u_46 q6_.2.1.length 20033)] := hw
        have hcl : CR _ (layF 20033 q6_).2.1 := CR.lay hcq6_
        refine lv_goto (tgt := 222) hx hb dX7_piece_66 (by decide) ?_
        have e : pieceF tf tp ky (f + 1) o nn q = (layF 20033 q6_) := by unfold pieceF; rw [if_neg hnb, if_pos hsg, ← hq5_, ← hq6_]
        exact s_vret cf hr hlk (if q6_.2.2.2 = true then u_46 else upd u_46 q6_.2.1.length 20033) (by rw [e]; exact hw) (by rw [e]; exact hcl) (Nat.le_of_ble_eq_true rfl) (Nat.le_of_ble_eq_true rfl) dX7_piece_222 hQ
      · have hlim : nn < 8 := nI_lt_of (n := 8) (by have := hN (by simpa using hnb); omega) c24 (by omega)
        refine lv_iconst (v := 1) hx hb dX7_piece_27 (by decide) ?_
        refine lv_goto (tgt := 32) hx hb dX7_piece_28 (by decide) ?_
        refine s_callv (runV cf (m_goesBy (ik := ik) (ky := ky) (wt := wt) (tf := tf) (tp := tp) htp (o := o) (nn := nn) q 1) hw [0, 1] (by decide) rfl km_X7_goesBy ki_X7_goesBy q1284 (run_recv (ci := 7) (T := TX7) (N := 39) hw 0 rfl rfl) rfl (rok_of (by omega) (by decide) (by decide) (by decide)) hl.1 rfl dX7_piece_32) hw [0, 1] (by decide) rfl (fun _ => rfl) (fun u_50 H locs hp_51 hw => ?_)
        have hw : WD g A s H locs [bO a 7 (mF ad ik (nI tp) (nI (atA tf tp (goF (¬ (1 : Int32) = 0) q).1)) (nI (bgA tf tp (goF (¬ (1 : Int32) = 0) q).1)) (tkA tf tp (goF (¬ (1 : Int32) = 0) q).1) (vaA tf tp (goF (¬ (1 : Int32) = 0) q).1) (nI (goF (¬ (1 : Int32) = 0) q).2.1.length) (nI (goF (¬ (1 : Int32) = 0) q).2.2.1) ky (nI o) (nI nn) (if (goF (¬ (1 : Int32) = 0) q).2.2.2 = true then 1 else 0) (nI (bwA tf tp (goF (¬ (1 : Int32) = 0) q).1)) wt), bI g (ad 10) 96 tf, bI g (ad 23) 96 cz] := hw
        have ego : goF (¬ (1 : Int32) = 0) q = goF (nn < 8) q := goF_cg ⟨fun _ => hlim, fun _ => by decide⟩
        have hw : WD g A s H locs [bO a 7 (mF ad ik (nI tp) (nI (atA tf tp (goF (nn < 8) q).1)) (nI (bgA tf tp (goF (nn < 8) q).1)) (tkA tf tp (goF (nn < 8) q).1) (vaA tf tp (goF (nn < 8) q).1) (nI (goF (nn < 8) q).2.1.length) (nI (goF (nn < 8) q).2.2.1) ky (nI o) (nI nn) (if (goF (nn < 8) q).2.2.2 = true then 1 else 0) (nI (bwA tf tp (goF (nn < 8) q).1)) wt), bI g (ad 10) 96 tf, bI g (ad 23) 96 cz] := by rw [← ego]; exact hw
        obtain ⟨q7_, hq7_⟩ : ∃ z, z = goF (nn < 8) q := ⟨_, rfl⟩
        have hw : WD g A s H locs [bO a 7 (mF ad ik (nI tp) (nI (atA tf tp q7_.1)) (nI (bgA tf tp q7_.1)) (tkA tf tp q7_.1) (vaA tf tp q7_.1) (nI q7_.2.1.length) (nI q7_.2.2.1) ky (nI o) (nI nn) (if q7_.2.2.2 = true then 1 else 0) (nI (bwA tf tp q7_.1)) wt), bI g (ad 10) 96 tf, bI g (ad 23) 96 cz] := by rw [hq7_]; exact hw
        have hcq7_ : CR cz q7_.2.1 := by rw [hq7_, go_cs]; exact hcr
        have hkq7_ : okQ tf tp q7_ := by rw [hq7_]; exact hok.gm hsg.1
        have hnq7_ : q7_.2.2.2 = false → NN f o (nn + 1) := fun z => by have y := go_bad (q := q) (may := nn < 8) (by rw [← hq7_]; exact z); have x := hN y.1; obtain ⟨x1, x2, x3⟩ := x; exact ⟨by omega, by omega, by omega⟩
        refine lv_aload_n hx hb dX7_piece_35 rfl (lv_at hl 0 rfl) ?_
        refine lv_dup hx hb dX7_piece_36 rfl ?_
        refine s_get (v := .int (nI nn)) fb7 cf hw 0 rfl 20 rfl q941 rfl dX7_piece_37 ?_
        refine lv_iconst (v := 1) hx hb dX7_piece_40 (by decide) ?_
        refine lv_iadd hx hb dX7_piece_41 ?_
        refine lv_topr (y := nI (nn + 1)) (nI_1 nn) ?_
        refine s_put (v := .int (nI (nn + 1))) fb7 cf hw 0 rfl 20 rfl q941 rfl rfl rfl rfl dX7_piece_42 (fun H locs hw => ?_)
        have hw : WD g A s H locs [bO a 7 (mF ad ik (nI tp) (nI (atA tf tp q7_.1)) (nI (bgA tf tp q7_.1)) (tkA tf tp q7_.1) (vaA tf tp q7_.1) (nI q7_.2.1.length) (nI q7_.2.2.1) ky (nI o) (nI (nn + 1)) (if q7_.2.2.2 = true then 1 else 0) (nI (bwA tf tp q7_.1)) wt), bI g (ad 10) 96 tf, bI g (ad 23) 96 cz] := hw
        refine lv_aload_n hx hb dX7_piece_45 rfl (lv_at hl 0 rfl) ?_
        refine s_callv (runV cf (hP o (nn + 1) q7_ cz hcq7_ hkq7_ hnq7_) hw [0, 1, 2] (by decide) rfl km_X7_piece ki_X7_piece q1308 (run_recv (ci := 7) (T := TX7) (N := 39) hw 0 rfl rfl) rfl (rok_of (by omega) (by decide) (by decide) (by decide)) hl.1 rfl dX7_piece_46) hw [0, 1, 2] (by decide) rfl (fun _ => rfl) (fun u_52 H locs hp_53 hw => ?_)
        have hw : WD g A s H locs [bO a 7 (mF ad ik (nI tp) (nI (atA tf tp (pieceF tf tp ky f o (nn + 1) q7_).1)) (nI (bgA tf tp (pieceF tf tp ky f o (nn + 1) q7_).1)) (tkA tf tp (pieceF tf tp ky f o (nn + 1) q7_).1) (vaA tf tp (pieceF tf tp ky f o (nn + 1) q7_).1) (nI (pieceF tf tp ky f o (nn + 1) q7_).2.1.length) (nI (pieceF tf tp ky f o (nn + 1) q7_).2.2.1) ky (nI o) (nI (nn + 1)) (if (pieceF tf tp ky f o (nn + 1) q7_).2.2.2 = true then 1 else 0) (nI (bwA tf tp (pieceF tf tp ky f o (nn + 1) q7_).1)) wt), bI g (ad 10) 96 tf, bI g (ad 23) 96 u_52] := hw
        obtain ⟨q8_, hq8_⟩ : ∃ z, z = pieceF tf tp ky f o (nn + 1) q7_ := ⟨_, rfl⟩
        have hw : WD g A s H locs [bO a 7 (mF ad ik (nI tp) (nI (atA tf tp q8_.1)) (nI (bgA tf tp q8_.1)) (tkA tf tp q8_.1) (vaA tf tp q8_.1) (nI q8_.2.1.length) (nI q8_.2.2.1) ky (nI o) (nI (nn + 1)) (if q8_.2.2.2 = true then 1 else 0) (nI (bwA tf tp q8_.1)) wt), bI g (ad 10) 96 tf, bI g (ad 23) 96 u_52] := by rw [hq8_]; exact hw
        have hcq8_ : CR u_52 q8_.2.1 := by rw [hq8_]; exact hp_53
        have hgq8_ : Gn tf tp (goF (nn < 8) q) q8_ := by rw [hq8_, hq7_]; exact gn_piece _ _ _ _
        refine lv_aload_n hx hb dX7_piece_49 rfl (lv_at hl 0 rfl) ?_
        refine lv_dup hx hb dX7_piece_50 rfl ?_
        refine s_get (v := .int (nI (nn + 1))) fb7 cf hw 0 rfl 20 rfl q941 rfl dX7_piece_51 ?_
        refine lv_iconst (v := 1) hx hb dX7_piece_54 (by decide) ?_
        refine lv_isub hx hb dX7_piece_55 ?_
        refine lv_topr (y := nI nn) (nI_pred nn) ?_
        refine s_put (v := .int (nI nn)) fb7 cf hw 0 rfl 20 rfl q941 rfl rfl rfl rfl dX7_piece_56 (fun H locs hw => ?_)
        have hw : WD g A s H locs [bO a 7 (mF ad ik (nI tp) (nI (atA tf tp q8_.1)) (nI (bgA tf tp q8_.1)) (tkA tf tp q8_.1) (vaA tf tp q8_.1) (nI q8_.2.1.length) (nI q8_.2.2.1) ky (nI o) (nI nn) (if q8_.2.2.2 = true then 1 else 0) (nI (bwA tf tp q8_.1)) wt), bI g (ad 10) 96 tf, bI g (ad 23) 96 u_52] := hw
        refine lv_aload_n hx hb dX7_piece_59 rfl (lv_at hl 0 rfl) ?_
        refine lv_sipush (v := 20033) hx hb dX7_piece_60 (by decide) ?_
        refine s_callv (runV cf (m_lays (ik := ik) (ky := ky) (wt := wt) (tf := tf) (tp := tp) htp (o := o) (nn := nn) q8_ (cz := u_52) (rm_lt htp (hok.go hsg.1 hgq8_)) 20033) hw [0, 2] (by decide) rfl km_X7_lays ki_X7_lays q1316 (run_recv (ci := 7) (T := TX7) (N := 39) hw 0 rfl rfl) rfl (rok_of (by omega) (by decide) (by decide) (by decide)) hl.1 rfl dX7_piece_63) hw [0, 2] (by decide) rfl (fun _ => rfl) (fun u_54 H locs hp_55 hw => ?_)
        have hw : WD g A s H locs [bO a 7 (mF ad ik (nI tp) (nI (atA tf tp (layF 20033 q8_).1)) (nI (bgA tf tp (layF 20033 q8_).1)) (tkA tf tp (layF 20033 q8_).1) (vaA tf tp (layF 20033 q8_).1) (nI (layF 20033 q8_).2.1.length) (nI (layF 20033 q8_).2.2.1) ky (nI o) (nI nn) (if (layF 20033 q8_).2.2.2 = true then 1 else 0) (nI (bwA tf tp (layF 20033 q8_).1)) wt), bI g (ad 10) 96 tf, bI g (ad 23) 96 (if q8_.2.2.2 = true then u_52 else upd u_52 q8_.2.1.length 20033)] := hw
        have hcl : CR _ (layF 20033 q8_).2.1 := CR.lay hcq8_
        refine lv_goto (tgt := 222) hx hb dX7_piece_66 (by decide) ?_
        have e : pieceF tf tp ky (f + 1) o nn q = (layF 20033 q8_) := by unfold pieceF; rw [if_neg hnb, if_pos hsg, ← hq7_, ← hq8_]
        exact s_vret cf hr hlk (if q8_.2.2.2 = true then u_52 else upd u_52 q8_.2.1.length 20033) (by rw [e]; exact hw) (by rw [e]; exact hcl) (Nat.le_of_ble_eq_true rfl) (Nat.le_of_ble_eq_true rfl) dX7_piece_222 hQ
  · have c4 := b01_n c4
    exact s_vret cf hr hlk cz (by rw [show pieceF tf tp ky (f + 1) o nn q = q from if_pos c4]; exact hw) (by rw [show pieceF tf tp ky (f + 1) o nn q = q from if_pos c4]; exact hcr) (Nat.le_of_ble_eq_true rfl) (Nat.le_of_ble_eq_true rfl) dX7_piece_7 hQ
