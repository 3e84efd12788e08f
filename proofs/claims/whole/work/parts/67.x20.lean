set_option maxRecDepth 100000 in
set_option maxHeartbeats 4000000 in
theorem c_cement {l : Launch} {g : GG} {t : Nat} {lad ad : Nat → Nat} {d cn : DD} {nm st_ : DD} {tr : Nat → Option Nat} {txb : va_W} {ft : TXC} (hF : FitAt g tr txb (cn 0) ft) (hFo : okF ft) (hI : InvH d) {n : Nat} (hn : d 0 = nI n) (hn10 : n ≤ 10) {ni : Nat} (hni : d 1 = nI ni) (h9 : ni ≤ 9999) {o t2 t3 : Nat} {ch : Nat → Nat} {kp tp wt : Int32} {ad2 : Nat → Nat} {d2 cn2 : DD} (x : Int32) : Ct l g yX6_cement cX6_cement 10 (Option.some Jvm.ClassFile.FieldType.int) 7 0 0 [.ref o, .int x] [bO t2 4 (tF (lad 0) ad2 (d2 0) (d2 9) (d2 5) (d2 6) (d2 7) (d2 1) (d2 8)), bI g (ad2 1) 10 (col d2 0), bI g (ad2 2) 10 (col d2 1), bI g (ad2 3) 10 (col d2 2), bI g (ad2 4) 10 (col d2 3), bI g (ad2 5) 10 (col d2 4), bI g (ad2 6) 3 (rulF d2), bI g (ad2 7) 3 cn2, bO t 4 (tF (lad 0) ad (d 0) (d 9) (d 5) (d 6) (d 7) (d 1) (d 8)), bI g (ad 1) 10 (col d 0), bI g (ad 2) 10 (col d 1), bI g (ad 3) 10 (col d 2), bI g (ad 4) 10 (col d 3), bI g (ad 5) 10 (col d 4), bI g (ad 6) 3 (rulF d), bI g (ad 7) 3 cn, bO (lad 0) 0 ([.ref (lad 1), .ref (lad 2), .ref (lad 3)]), bR g 4 (lad 1) 14 tr, bI g (lad 2) 6 nm, bI g (lad 3) 96 st_, txb, bO o 6 (cF (lad 0) t t3 t2 ch kp tp wt)] (QI g (fun r (_ : DD × DD × DD × DD) => r = R_cement ft d x) (fun u => [bO t2 4 (tF (lad 0) ad2 (u.2.2.1 0) (u.2.2.1 9) (u.2.2.1 5) (u.2.2.1 6) (u.2.2.1 7) (u.2.2.1 1) (u.2.2.1 8)), bI g (ad2 1) 10 (col u.2.2.1 0), bI g (ad2 2) 10 (col u.2.2.1 1), bI g (ad2 3) 10 (col u.2.2.1 2), bI g (ad2 4) 10 (col u.2.2.1 3), bI g (ad2 5) 10 (col u.2.2.1 4), bI g (ad2 6) 3 (rulF u.2.2.1), bI g (ad2 7) 3 u.2.2.2, bO t 4 (tF (lad 0) ad (d 0) (d 9) (d 5) (d 6) (d 7) (d 1) (d 8)), bI g (ad 1) 10 (col d 0), bI g (ad 2) 10 (col d 1), bI g (ad 3) 10 (col d 2), bI g (ad 4) 10 (col d 3), bI g (ad 5) 10 (col d 4), bI g (ad 6) 3 (rulF d), bI g (ad 7) 3 cn, bO (lad 0) 0 ([.ref (lad 1), .ref (lad 2), .ref (lad 3)]), bR g 4 (lad 1) 14 tr, bI g (lad 2) 6 u.1, bI g (lad 3) 96 u.2.1, txb, bO o 6 (cF (lad 0) t t3 t2 ch kp tp wt)])) := by
  refine Ct.of (by decide) rfl ?_
  intro p e s m args below meth c A H locs ls Qf cf hr hlk hnm hQ hw hl
  have hx := cf.1
  have hb := cf.2.1
  have hml := cf.2.2.1
  have hown := cf.2.2.2.1
  have hts := cf.2.2.2.2
  have hw : WD g A s H locs [bO t2 4 (tF (lad 0) ad2 (d2 0) (d2 9) (d2 5) (d2 6) (d2 7) (d2 1) (d2 8)), bI g (ad2 1) 10 (col d2 0), bI g (ad2 2) 10 (col d2 1), bI g (ad2 3) 10 (col d2 2), bI g (ad2 4) 10 (col d2 3), bI g (ad2 5) 10 (col d2 4), bI g (ad2 6) 3 (rulF d2), bI g (ad2 7) 3 cn2, bO t 4 (tF (lad 0) ad (d 0) (d 9) (d 5) (d 6) (d 7) (d 1) (d 8)), bI g (ad 1) 10 (col d 0), bI g (ad 2) 10 (col d 1), bI g (ad 3) 10 (col d 2), bI g (ad 4) 10 (col d 3), bI g (ad 5) 10 (col d 4), bI g (ad 6) 3 (rulF d), bI g (ad 7) 3 cn, bO (lad 0) 0 ([.ref (lad 1), .ref (lad 2), .ref (lad 3)]), bR g 4 (lad 1) 14 tr, bI g (lad 2) 6 nm, bI g (lad 3) 96 st_, txb, bO o 6 (cF (lad 0) t t3 t2 ch kp tp wt)] := hw
  have hl : lv_has ls 10 [(0, .ref o), (1, .int x)] := hl
  refine lv_iload_n hx hb dX6_cement_0 rfl (lv_at hl 1 rfl) ?_
  refine lv_bipush (v := 20) hx hb dX6_cement_1 (by decide) ?_
  refine s_calli (runS cf (x_isWithin x 20) hw [] (by decide) rfl km_X6_isWithin ks_X6_isWithin q353 rfl rfl hl.1 rfl dX6_cement_3) hw [] (by decide) rfl (fun _ => rfl) (fun r_3 u_1 H locs hp_2 hw => ?_)
  have hw : WD g A s H locs [bO t2 4 (tF (lad 0) ad2 (d2 0) (d2 9) (d2 5) (d2 6) (d2 7) (d2 1) (d2 8)), bI g (ad2 1) 10 (col d2 0), bI g (ad2 2) 10 (col d2 1), bI g (ad2 3) 10 (col d2 2), bI g (ad2 4) 10 (col d2 3), bI g (ad2 5) 10 (col d2 4), bI g (ad2 6) 3 (rulF d2), bI g (ad2 7) 3 cn2, bO t 4 (tF (lad 0) ad (d 0) (d 9) (d 5) (d 6) (d 7) (d 1) (d 8)), bI g (ad 1) 10 (col d 0), bI g (ad 2) 10 (col d 1), bI g (ad 3) 10 (col d 2), bI g (ad 4) 10 (col d 3), bI g (ad 5) 10 (col d 4), bI g (ad 6) 3 (rulF d), bI g (ad 7) 3 cn, bO (lad 0) 0 ([.ref (lad 1), .ref (lad 2), .ref (lad 3)]), bR g 4 (lad 1) 14 tr, bI g (lad 2) 6 nm, bI g (lad 3) 96 st_, txb, bO o 6 (cF (lad 0) t t3 t2 ch kp tp wt)] := hw
  subst hp_2
  refine lv_if_ne (tgt := 12) hx hb dX6_cement_6 (by decide) (fun c6 => ?_) (fun c6 => ?_)
  · have c6 := b01_n c6
    obtain ⟨xn, hxn, hxx⟩ := rng_nat (m := 20) (by omega) c6.1 c6.2
    subst hxx
    have hcl : (nI xn).toNatClampNeg = xn := nI_clamp (by omega)
    have hp10 := pow_le10 hn10
    refine lv_aload_n hx hb dX6_cement_12 rfl (lv_at hl 0 rfl) ?_
    refine s_get (v := .ref t) fb6 cf hw 21 rfl 1 rfl q307 rfl dX6_cement_13 ?_
    refine lv_iconst (v := 2) hx hb dX6_cement_16 (by decide) ?_
    refine s_calli (runVN cf (x_those (t := t) (lad := lad) (ad := ad) (d := d) (cn := cn) (n := n) hn hn10 2) hw [8, 9] (by decide) rfl km_X4_those ki_X4_those q561 (run_recv (ci := 4) (T := TX4) (N := 15) hw 8 rfl rfl) rfl rfl hl.1 rfl dX6_cement_17) hw [8, 9] (by decide) rfl (fun _ => rfl) (fun r_6 u_4 H locs hp_5 hw => ?_)
    have hw : WD g A s H locs [bO t2 4 (tF (lad 0) ad2 (d2 0) (d2 9) (d2 5) (d2 6) (d2 7) (d2 1) (d2 8)), bI g (ad2 1) 10 (col d2 0), bI g (ad2 2) 10 (col d2 1), bI g (ad2 3) 10 (col d2 2), bI g (ad2 4) 10 (col d2 3), bI g (ad2 5) 10 (col d2 4), bI g (ad2 6) 3 (rulF d2), bI g (ad2 7) 3 cn2, bO t 4 (tF (lad 0) ad (d 0) (d 9) (d 5) (d 6) (d 7) (d 1) (d 8)), bI g (ad 1) 10 (col d 0), bI g (ad 2) 10 (col d 1), bI g (ad 3) 10 (col d 2), bI g (ad 4) 10 (col d 3), bI g (ad 5) 10 (col d 4), bI g (ad 6) 3 (rulF d), bI g (ad 7) 3 cn, bO (lad 0) 0 ([.ref (lad 1), .ref (lad 2), .ref (lad 3)]), bR g 4 (lad 1) 14 tr, bI g (lad 2) 6 nm, bI g (lad 3) 96 st_, txb, bO o 6 (cF (lad 0) t t3 t2 ch kp tp wt)] := hw
    subst hp_5
    refine lv_iconst (v := (-1)) hx hb dX6_cement_20 (by decide) ?_
    refine lv_ixor hx hb dX6_cement_21 ?_
    refine lv_istore_n (lv' := [(2, .int ((setF (fun h => d (10 + 5 * h + 0) = 2) n) ^^^ (-1))), (0, .ref o), (1, .int (nI xn))]) hx hb dX6_cement_22 rfl hl (by decide) rfl (fun ls hl => ?_)
    refine lv_aload_n hx hb dX6_cement_23 rfl (lv_at hl 1 rfl) ?_
    refine s_get (v := .ref t) fb6 cf hw 21 rfl 1 rfl q307 rfl dX6_cement_24 ?_
    refine s_calli (runVN cf (x_misfits (t := t) (lad := lad) (ad := ad) (d := d) (cn := cn) (n := n) hn hn10) hw [8, 11, 10, 9] (by decide) rfl km_X4_misfits ki_X4_misfits q565 (run_recv (ci := 4) (T := TX4) (N := 15) hw 8 rfl rfl) rfl rfl hl.1 rfl dX6_cement_27) hw [8, 11, 10, 9] (by decide) rfl (fun _ => rfl) (fun r_9 u_7 H locs hp_8 hw => ?_)
    have hw : WD g A s H locs [bO t2 4 (tF (lad 0) ad2 (d2 0) (d2 9) (d2 5) (d2 6) (d2 7) (d2 1) (d2 8)), bI g (ad2 1) 10 (col d2 0), bI g (ad2 2) 10 (col d2 1), bI g (ad2 3) 10 (col d2 2), bI g (ad2 4) 10 (col d2 3), bI g (ad2 5) 10 (col d2 4), bI g (ad2 6) 3 (rulF d2), bI g (ad2 7) 3 cn2, bO t 4 (tF (lad 0) ad (d 0) (d 9) (d 5) (d 6) (d 7) (d 1) (d 8)), bI g (ad 1) 10 (col d 0), bI g (ad 2) 10 (col d 1), bI g (ad 3) 10 (col d 2), bI g (ad 4) 10 (col d 3), bI g (ad 5) 10 (col d 4), bI g (ad 6) 3 (rulF d), bI g (ad 7) 3 cn, bO (lad 0) 0 ([.ref (lad 1), .ref (lad 2), .ref (lad 3)]), bR g 4 (lad 1) 14 tr, bI g (lad 2) 6 nm, bI g (lad 3) 96 st_, txb, bO o 6 (cF (lad 0) t t3 t2 ch kp tp wt)] := hw
    subst hp_8
    obtain ⟨U, hU, hUe, hUb⟩ := setF_nat (P := fun h => useP d h) n hn10
    refine lv_topr (y := nI U) (hUe) ?_
    refine lv_istore_n (lv' := [(3, .int (nI U)), (2, .int ((setF (fun h => d (10 + 5 * h + 0) = 2) n) ^^^ (-1))), (0, .ref o), (1, .int (nI xn))]) hx hb dX6_cement_30 rfl hl (by decide) rfl (fun ls hl => ?_)
    refine lv_aload_n hx hb dX6_cement_31 rfl (lv_at hl 2 rfl) ?_
    refine lv_iconst (v := 0) hx hb dX6_cement_32 (by decide) ?_
    refine lv_iload_n hx hb dX6_cement_33 rfl (lv_at hl 3 rfl) ?_
    refine lv_iconst (v := 0) hx hb dX6_cement_34 (by decide) ?_
    refine s_calli (runV cf (x_loudWith (t := t) (lad := lad) (ad := ad) (d := d) (cn := cn) (nm := nm) (st_ := st_) (tr := tr) (txb := txb) (ft := ft) hF hFo hI (n := n) hn hn10 (ni := ni) hni h9 (o := o) (t2 := t2) (t3 := t3) (ch := ch) (kp := kp) (tp := tp) (wt := wt) (ad2 := ad2) (d2 := d2) (cn2 := cn2) 0 0 xn (by omega)) hw [0, 1, 2, 3, 4, 5, 6, 7, 8, 9, 10, 11, 12, 13, 14, 15, 16, 17, 18, 19, 20, 21] (by decide) rfl km_X6_loudWith ki_X6_loudWith q569 (run_recv (ci := 6) (T := TX6) (N := 13) hw 21 rfl rfl) rfl rfl hl.1 rfl dX6_cement_35) hw [0, 1, 2, 3, 4, 5, 6, 7, 8, 9, 10, 11, 12, 13, 14, 15, 16, 17, 18, 19, 20, 21] (by decide) rfl (fun _ => rfl) (fun r_12 u_10 H locs hp_11 hw => ?_)
    have hw : WD g A s H locs [bO t2 4 (tF (lad 0) ad2 (u_10.2.2.1 0) (u_10.2.2.1 9) (u_10.2.2.1 5) (u_10.2.2.1 6) (u_10.2.2.1 7) (u_10.2.2.1 1) (u_10.2.2.1 8)), bI g (ad2 1) 10 (col u_10.2.2.1 0), bI g (ad2 2) 10 (col u_10.2.2.1 1), bI g (ad2 3) 10 (col u_10.2.2.1 2), bI g (ad2 4) 10 (col u_10.2.2.1 3), bI g (ad2 5) 10 (col u_10.2.2.1 4), bI g (ad2 6) 3 (rulF u_10.2.2.1), bI g (ad2 7) 3 u_10.2.2.2, bO t 4 (tF (lad 0) ad (d 0) (d 9) (d 5) (d 6) (d 7) (d 1) (d 8)), bI g (ad 1) 10 (col d 0), bI g (ad 2) 10 (col d 1), bI g (ad 3) 10 (col d 2), bI g (ad 4) 10 (col d 3), bI g (ad 5) 10 (col d 4), bI g (ad 6) 3 (rulF d), bI g (ad 7) 3 cn, bO (lad 0) 0 ([.ref (lad 1), .ref (lad 2), .ref (lad 3)]), bR g 4 (lad 1) 14 tr, bI g (lad 2) 6 u_10.1, bI g (lad 3) 96 u_10.2.1, txb, bO o 6 (cF (lad 0) t t3 t2 ch kp tp wt)] := wd_re 22 [] hw (by decide) rfl rfl (by decide) (by decide) (by decide) rfl
    subst hp_11
    refine lv_topr (y := loudF ft (upd (cemE ft d xn 0) 5 0) n) (by show _ = loudF ft (upd (nightsF ft xn (fitSet (nI 0) d)) 5 0) n; rw [if_pos rfl]; rfl) ?_
    refine lv_iload_n hx hb dX6_cement_38 rfl (lv_at hl 1 rfl) ?_
    refine lv_iand hx hb dX6_cement_39 ?_
    obtain ⟨M0, hM0l, hM0e, hM0b⟩ := cem_sets (ft := ft) (d := d) (m := n) (e := upd (cemE ft d xn 0) 5 0) ((upd_ne (by omega)).trans cemE_2) hn10
    have hM0 : ∀ h, M0.testBit h = true → h < n ∧ ¬ d (10 + 5 * h + 0) = 2 ∧ d 2 ≤ slackF ft (upd (cemE ft d xn 0) 5 0) h := fun h hh => by have q := of_decide_eq_true ((hM0b h).symm.trans hh); exact ⟨q.1.1, q.2, q.1.2⟩
    refine lv_topr (y := nI M0) (hM0e) ?_
    refine lv_istore (lv' := [(4, .int (nI M0)), (3, .int (nI U)), (2, .int ((setF (fun h => d (10 + 5 * h + 0) = 2) n) ^^^ (-1))), (0, .ref o), (1, .int (nI xn))]) hx hb dX6_cement_40 hl (by decide) rfl (fun ls hl => ?_)
    refine lv_aload_n hx hb dX6_cement_42 rfl (lv_at hl 3 rfl) ?_
    refine lv_iload_n hx hb dX6_cement_43 rfl (lv_at hl 1 rfl) ?_
    refine lv_iload_n hx hb dX6_cement_44 rfl (lv_at hl 4 rfl) ?_
    refine lv_iconst (v := 0) hx hb dX6_cement_45 (by decide) ?_
    refine s_calli (runV cf (x_loudWith (t := t) (lad := lad) (ad := ad) (d := d) (cn := cn) (nm := u_10.1) (st_ := u_10.2.1) (tr := tr) (txb := txb) (ft := ft) hF hFo hI (n := n) hn hn10 (ni := ni) hni h9 (o := o) (t2 := t2) (t3 := t3) (ch := ch) (kp := kp) (tp := tp) (wt := wt) (ad2 := ad2) (d2 := u_10.2.2.1) (cn2 := u_10.2.2.2) (nI U) 0 xn (by omega)) hw [0, 1, 2, 3, 4, 5, 6, 7, 8, 9, 10, 11, 12, 13, 14, 15, 16, 17, 18, 19, 20, 21] (by decide) rfl km_X6_loudWith ki_X6_loudWith q569 (run_recv (ci := 6) (T := TX6) (N := 13) hw 21 rfl rfl) rfl rfl hl.1 rfl dX6_cement_46) hw [0, 1, 2, 3, 4, 5, 6, 7, 8, 9, 10, 11, 12, 13, 14, 15, 16, 17, 18, 19, 20, 21] (by decide) rfl (fun _ => rfl) (fun r_15 u_13 H locs hp_14 hw => ?_)
    have hw : WD g A s H locs [bO t2 4 (tF (lad 0) ad2 (u_13.2.2.1 0) (u_13.2.2.1 9) (u_13.2.2.1 5) (u_13.2.2.1 6) (u_13.2.2.1 7) (u_13.2.2.1 1) (u_13.2.2.1 8)), bI g (ad2 1) 10 (col u_13.2.2.1 0), bI g (ad2 2) 10 (col u_13.2.2.1 1), bI g (ad2 3) 10 (col u_13.2.2.1 2), bI g (ad2 4) 10 (col u_13.2.2.1 3), bI g (ad2 5) 10 (col u_13.2.2.1 4), bI g (ad2 6) 3 (rulF u_13.2.2.1), bI g (ad2 7) 3 u_13.2.2.2, bO t 4 (tF (lad 0) ad (d 0) (d 9) (d 5) (d 6) (d 7) (d 1) (d 8)), bI g (ad 1) 10 (col d 0), bI g (ad 2) 10 (col d 1), bI g (ad 3) 10 (col d 2), bI g (ad 4) 10 (col d 3), bI g (ad 5) 10 (col d 4), bI g (ad 6) 3 (rulF d), bI g (ad 7) 3 cn, bO (lad 0) 0 ([.ref (lad 1), .ref (lad 2), .ref (lad 3)]), bR g 4 (lad 1) 14 tr, bI g (lad 2) 6 u_13.1, bI g (lad 3) 96 u_13.2.1, txb, bO o 6 (cF (lad 0) t t3 t2 ch kp tp wt)] := wd_re 22 [] hw (by decide) rfl rfl (by decide) (by decide) (by decide) rfl
    subst hp_14
    refine lv_topr (y := loudF ft (upd (cemE ft d xn U) 5 0) n) (by show _ = loudF ft (upd (nightsF ft xn (fitSet (nI U) d)) 5 0) n; rw [if_pos rfl]) ?_
    refine lv_iload_n hx hb dX6_cement_49 rfl (lv_at hl 2 rfl) ?_
    refine lv_iand hx hb dX6_cement_50 ?_
    obtain ⟨M1, hM1l, hM1e, hM1b⟩ := cem_sets (ft := ft) (d := d) (m := n) (e := upd (cemE ft d xn U) 5 0) ((upd_ne (by omega)).trans cemE_2) hn10
    have hM1 : ∀ h, M1.testBit h = true → h < n ∧ ¬ d (10 + 5 * h + 0) = 2 ∧ d 2 ≤ slackF ft (upd (cemE ft d xn U) 5 0) h := fun h hh => by have q := of_decide_eq_true ((hM1b h).symm.trans hh); exact ⟨q.1.1, q.2, q.1.2⟩
    refine lv_topr (y := nI M1) (hM1e) ?_
    refine lv_istore (lv' := [(5, .int (nI M1)), (4, .int (nI M0)), (3, .int (nI U)), (2, .int ((setF (fun h => d (10 + 5 * h + 0) = 2) n) ^^^ (-1))), (0, .ref o), (1, .int (nI xn))]) hx hb dX6_cement_51 hl (by decide) rfl (fun ls hl => ?_)
    refine lv_iload hx hb dX6_cement_53 (lv_at hl 1 rfl) ?_
    refine lv_iload hx hb dX6_cement_55 (lv_at hl 0 rfl) ?_
    refine lv_iand hx hb dX6_cement_57 ?_
    refine lv_if_ne (tgt := 83) hx hb dX6_cement_58 (by decide) (fun c58 => ?_) (fun c58 => ?_)
    · refine lv_ldc hx hb hown (hts _ q552) dX6_cement_83 ?_
      obtain ⟨hh, hh0, hh1⟩ : ∃ h, M0.testBit h = true ∧ M1.testBit h = true := by
        apply Classical.byContradiction
        intro q
        refine c58 ?_
        rw [and_nat hM0l hM1l, zero_of_bits (s := M0 &&& M1) (fun i => by rw [Nat.testBit_and]; cases z0 : M0.testBit i with | false => rfl | true => (cases z1 : M1.testBit i with | false => rfl | true => exact absurd ⟨i, z0, z1⟩ q))]
        rfl
      exact s_iret cf hr hlk (u_13.1, u_13.2.1, u_13.2.2.1, u_13.2.2.2) hw ((R_cem_none hn hn10 c6 hcl (fun t ht => cem_none hI hn hn10 hni (by omega) (by omega) (by omega) hUb hM0 hM1 hh0 hh1)).symm) (Nat.le_of_ble_eq_true rfl) (Nat.le_of_ble_eq_true rfl) dX6_cement_85 hQ
    · have L86 : ∀ (H : Heap) (locs : List Loc) (ls : Array Slot), WD g A s H locs [bO t2 4 (tF (lad 0) ad2 (u_13.2.2.1 0) (u_13.2.2.1 9) (u_13.2.2.1 5) (u_13.2.2.1 6) (u_13.2.2.1 7) (u_13.2.2.1 1) (u_13.2.2.1 8)), bI g (ad2 1) 10 (col u_13.2.2.1 0), bI g (ad2 2) 10 (col u_13.2.2.1 1), bI g (ad2 3) 10 (col u_13.2.2.1 2), bI g (ad2 4) 10 (col u_13.2.2.1 3), bI g (ad2 5) 10 (col u_13.2.2.1 4), bI g (ad2 6) 3 (rulF u_13.2.2.1), bI g (ad2 7) 3 u_13.2.2.2, bO t 4 (tF (lad 0) ad (d 0) (d 9) (d 5) (d 6) (d 7) (d 1) (d 8)), bI g (ad 1) 10 (col d 0), bI g (ad 2) 10 (col d 1), bI g (ad 3) 10 (col d 2), bI g (ad 4) 10 (col d 3), bI g (ad 5) 10 (col d 4), bI g (ad 6) 3 (rulF d), bI g (ad 7) 3 cn, bO (lad 0) 0 ([.ref (lad 1), .ref (lad 2), .ref (lad 3)]), bR g 4 (lad 1) 14 tr, bI g (lad 2) 6 u_13.1, bI g (lad 3) 96 u_13.2.1, txb, bO o 6 (cF (lad 0) t t3 t2 ch kp tp wt)] → lv_has ls 10 [(5, .int (nI M1)), (4, .int (nI M0)), (3, .int (nI U)), (2, .int ((setF (fun h => d (10 + 5 * h + 0) = 2) n) ^^^ (-1))), (0, .ref o), (1, .int (nI xn))] → W p l e (rmx 7 0 0) s m args below meth c H locs 0 0 Qf (F0 m 86 ls []) := by
        intro   H locs ls hw hl
        refine lv_iload_n hx hb dX6_cement_86 rfl (lv_at hl 2 rfl) ?_
        refine lv_iload hx hb dX6_cement_87 (lv_at hl 0 rfl) ?_
        refine lv_iconst (v := (-1)) hx hb dX6_cement_89 (by decide) ?_
        refine lv_ixor hx hb dX6_cement_90 ?_
        refine lv_iand hx hb dX6_cement_91 ?_
        refine lv_topr (y := nI (lessN U M1)) (less_nat (by omega) hM1l) ?_
        refine lv_istore (lv' := [(6, .int (nI (lessN U M1))), (5, .int (nI M1)), (4, .int (nI M0)), (3, .int (nI U)), (2, .int ((setF (fun h => d (10 + 5 * h + 0) = 2) n) ^^^ (-1))), (0, .ref o), (1, .int (nI xn))]) hx hb dX6_cement_92 hl (by decide) rfl (fun ls hl => ?_)
        refine lv_iconst (v := 1) hx hb dX6_cement_94 (by decide) ?_
        refine lv_aload_n hx hb dX6_cement_95 rfl (lv_at hl 5 rfl) ?_
        refine s_get (v := .ref t) fb6 cf hw 21 rfl 1 rfl q307 rfl dX6_cement_96 ?_
        refine s_getN (v := .int (d 0)) fb4 cf hw 8 rfl 8 rfl q174 rfl dX6_cement_99 ?_
        refine lv_ishl hx hb dX6_cement_102 ?_
        refine lv_topr (y := nI (2 ^ n)) (by rw [hn]; exact shl_pow n hn10) ?_
        refine lv_istore (lv' := [(7, .int (nI (2 ^ n))), (6, .int (nI (lessN U M1))), (5, .int (nI M1)), (4, .int (nI M0)), (3, .int (nI U)), (2, .int ((setF (fun h => d (10 + 5 * h + 0) = 2) n) ^^^ (-1))), (0, .ref o), (1, .int (nI xn))]) hx hb dX6_cement_103 hl (by decide) rfl (fun ls hl => ?_)
        refine lv_iload hx hb dX6_cement_105 (lv_at hl 3 rfl) ?_
        refine s_calli (runS cf (x_bitCount (nI M0)) hw [] (by decide) rfl km_J6_bitCount_0f7a4 ks_J6_bitCount_0f7a4 q573 rfl rfl hl.1 rfl dX6_cement_107) hw [] (by decide) rfl (fun _ => rfl) (fun r_18 u_16 H locs hp_17 hw => ?_)
        have hw : WD g A s H locs [bO t2 4 (tF (lad 0) ad2 (u_13.2.2.1 0) (u_13.2.2.1 9) (u_13.2.2.1 5) (u_13.2.2.1 6) (u_13.2.2.1 7) (u_13.2.2.1 1) (u_13.2.2.1 8)), bI g (ad2 1) 10 (col u_13.2.2.1 0), bI g (ad2 2) 10 (col u_13.2.2.1 1), bI g (ad2 3) 10 (col u_13.2.2.1 2), bI g (ad2 4) 10 (col u_13.2.2.1 3), bI g (ad2 5) 10 (col u_13.2.2.1 4), bI g (ad2 6) 3 (rulF u_13.2.2.1), bI g (ad2 7) 3 u_13.2.2.2, bO t 4 (tF (lad 0) ad (d 0) (d 9) (d 5) (d 6) (d 7) (d 1) (d 8)), bI g (ad 1) 10 (col d 0), bI g (ad 2) 10 (col d 1), bI g (ad 3) 10 (col d 2), bI g (ad 4) 10 (col d 3), bI g (ad 5) 10 (col d 4), bI g (ad 6) 3 (rulF d), bI g (ad 7) 3 cn, bO (lad 0) 0 ([.ref (lad 1), .ref (lad 2), .ref (lad 3)]), bR g 4 (lad 1) 14 tr, bI g (lad 2) 6 u_13.1, bI g (lad 3) 96 u_13.2.1, txb, bO o 6 (cF (lad 0) t t3 t2 ch kp tp wt)] := hw
        subst hp_17
        have hc0 := (cnt_le (s := M0) (m := 10) hM0l 10).1
        refine lv_topr (y := nI (cnt M0 10)) ((bitF_ones M0 hM0l).trans (ones_cnt hM0l)) ?_
        refine lv_istore (lv' := [(8, .int (nI (cnt M0 10))), (7, .int (nI (2 ^ n))), (6, .int (nI (lessN U M1))), (5, .int (nI M1)), (4, .int (nI M0)), (3, .int (nI U)), (2, .int ((setF (fun h => d (10 + 5 * h + 0) = 2) n) ^^^ (-1))), (0, .ref o), (1, .int (nI xn))]) hx hb dX6_cement_110 hl (by decide) rfl (fun ls hl => ?_)
        have L112 : ∀ (fu : Nat) (k : Nat) (nm st_ d2 cn2 : DD), (k ≤ 11) → (12 < k + fu) → (∀ t, t < 2 ^ n → cemV ft d xn t → t &&& lessN U M1 = t → t &&& M0 = M0 → k ≤ cnt t 10) → ∀ (H : Heap) (locs : List Loc) (ls : Array Slot), WD g A s H locs [bO t2 4 (tF (lad 0) ad2 (d2 0) (d2 9) (d2 5) (d2 6) (d2 7) (d2 1) (d2 8)), bI g (ad2 1) 10 (col d2 0), bI g (ad2 2) 10 (col d2 1), bI g (ad2 3) 10 (col d2 2), bI g (ad2 4) 10 (col d2 3), bI g (ad2 5) 10 (col d2 4), bI g (ad2 6) 3 (rulF d2), bI g (ad2 7) 3 cn2, bO t 4 (tF (lad 0) ad (d 0) (d 9) (d 5) (d 6) (d 7) (d 1) (d 8)), bI g (ad 1) 10 (col d 0), bI g (ad 2) 10 (col d 1), bI g (ad 3) 10 (col d 2), bI g (ad 4) 10 (col d 3), bI g (ad 5) 10 (col d 4), bI g (ad 6) 3 (rulF d), bI g (ad 7) 3 cn, bO (lad 0) 0 ([.ref (lad 1), .ref (lad 2), .ref (lad 3)]), bR g 4 (lad 1) 14 tr, bI g (lad 2) 6 nm, bI g (lad 3) 96 st_, txb, bO o 6 (cF (lad 0) t t3 t2 ch kp tp wt)] → lv_has ls 10 [(0, .ref o), (1, .int (nI xn)), (4, .int (nI M0)), (6, .int (nI (lessN U M1))), (7, .int (nI (2 ^ n))), (8, .int (nI k))] → W p l e (rmx 7 0 0) s m args below meth c H locs 0 0 Qf (F0 m 112 ls []) := by
          intro fu
          induction fu with
          | zero => intro k nm st_ d2 cn2 hk hfu hout; exfalso; omega
          | succ fu ih112 =>
            intro k nm st_ d2 cn2 hk hfu hout H locs ls hw hl
            refine lv_iload hx hb dX6_cement_112 (lv_at hl 5 rfl) ?_
            refine lv_aload_n hx hb dX6_cement_114 rfl (lv_at hl 0 rfl) ?_
            refine s_get (v := .ref t) fb6 cf hw 21 rfl 1 rfl q307 rfl dX6_cement_115 ?_
            refine s_getN (v := .int (d 0)) fb4 cf hw 8 rfl 8 rfl q174 rfl dX6_cement_118 ?_
            refine lv_icmp_gt (tgt := 191) hx hb dX6_cement_121 (by decide) (fun c121 => ?_) (fun c121 => ?_)
            · have hkn : n < k := by rw [hn, nI_ltI (by omega) (by omega)] at c121; exact c121
              refine lv_ldc hx hb hown (hts _ q552) dX6_cement_191 ?_
              exact s_iret cf hr hlk (nm, st_, d2, cn2) hw ((R_cem_end hI hn hn10 hni (by omega) c6 hcl (by omega) hUb hM0 hM1 (fun t ht hv h1 h2 => by have := hout t ht hv h1 h2; omega)).symm) (Nat.le_of_ble_eq_true rfl) (Nat.le_of_ble_eq_true rfl) dX6_cement_193 hQ
            · have hkn : k ≤ n := by rw [hn, nI_ltI (by omega) (by omega)] at c121; omega
              refine lv_iload hx hb dX6_cement_124 (lv_at hl 2 rfl) ?_
              refine lv_istore (lv' := [(9, .int (nI M0)), (0, .ref o), (1, .int (nI xn)), (4, .int (nI M0)), (6, .int (nI (lessN U M1))), (7, .int (nI (2 ^ n))), (8, .int (nI k))]) hx hb dX6_cement_126 hl (by decide) rfl (fun ls hl => ?_)
              have L128 : ∀ (fu : Nat) (z : Nat) (nm st_ d2 cn2 : DD), (z ≤ 1024) → (1024 < z + fu) → (∀ t, t < z → cemV ft d xn t → t &&& lessN U M1 = t → t &&& M0 = M0 → cnt t 10 ≠ k) → ∀ (H : Heap) (locs : List Loc) (ls : Array Slot), WD g A s H locs [bO t2 4 (tF (lad 0) ad2 (d2 0) (d2 9) (d2 5) (d2 6) (d2 7) (d2 1) (d2 8)), bI g (ad2 1) 10 (col d2 0), bI g (ad2 2) 10 (col d2 1), bI g (ad2 3) 10 (col d2 2), bI g (ad2 4) 10 (col d2 3), bI g (ad2 5) 10 (col d2 4), bI g (ad2 6) 3 (rulF d2), bI g (ad2 7) 3 cn2, bO t 4 (tF (lad 0) ad (d 0) (d 9) (d 5) (d 6) (d 7) (d 1) (d 8)), bI g (ad 1) 10 (col d 0), bI g (ad 2) 10 (col d 1), bI g (ad 3) 10 (col d 2), bI g (ad 4) 10 (col d 3), bI g (ad 5) 10 (col d 4), bI g (ad 6) 3 (rulF d), bI g (ad 7) 3 cn, bO (lad 0) 0 ([.ref (lad 1), .ref (lad 2), .ref (lad 3)]), bR g 4 (lad 1) 14 tr, bI g (lad 2) 6 nm, bI g (lad 3) 96 st_, txb, bO o 6 (cF (lad 0) t t3 t2 ch kp tp wt)] → lv_has ls 10 [(0, .ref o), (1, .int (nI xn)), (4, .int (nI M0)), (6, .int (nI (lessN U M1))), (7, .int (nI (2 ^ n))), (8, .int (nI k)), (9, .int (nI z))] → W p l e (rmx 7 0 0) s m args below meth c H locs 0 0 Qf (F0 m 128 ls []) := by
                intro fu
                induction fu with
                | zero => intro z nm st_ d2 cn2 hz hfz hin; exfalso; omega
                | succ fu ih128 =>
                  intro z nm st_ d2 cn2 hz hfz hin H locs ls hw hl
                  refine lv_iload hx hb dX6_cement_128 (lv_at hl 6 rfl) ?_
                  refine lv_iload hx hb dX6_cement_130 (lv_at hl 4 rfl) ?_
                  refine lv_icmp_ge (tgt := 185) hx hb dX6_cement_132 (by decide) (fun c132 => ?_) (fun c132 => ?_)
                  · have hz2 : 2 ^ n ≤ z := nI_le_of (by omega) c132 (by omega)
                    refine lv_iinc (v := nI (k + 1)) (lv' := [(8, .int (nI (k + 1))), (0, .ref o), (1, .int (nI xn)), (4, .int (nI M0)), (6, .int (nI (lessN U M1))), (7, .int (nI (2 ^ n))), (9, .int (nI z))]) hx hb dX6_cement_185 hl (k := 5) rfl (nI_1 k) (by decide) rfl (fun ls hl => ?_)
                    refine lv_goto (tgt := 112) hx hb dX6_cement_188 (by decide) ?_
                    exact ih112 (k + 1) nm st_ d2 cn2 (by omega) (by omega) (fun t ht hv h1 h2 => by have a1 := hout t ht hv h1 h2; have a2 := hin t (by omega) hv h1 h2; omega) _ _ _ hw (lv_sub hl [1, 2, 3, 4, 5, 0] rfl)
                  · have hlt : z < 2 ^ n := nI_lt_of (by omega) c132 (by omega)
                    have hz4 : z < 1024 := by omega
                    have hW := less_lt (a := U) (b := M1) (by omega)
                    have hcz := (cnt_le (s := z) (m := 10) hz4 10).1
                    refine lv_iload hx hb dX6_cement_135 (lv_at hl 6 rfl) ?_
                    refine lv_iload hx hb dX6_cement_137 (lv_at hl 3 rfl) ?_
                    refine lv_iand hx hb dX6_cement_139 ?_
                    refine lv_iload hx hb dX6_cement_140 (lv_at hl 6 rfl) ?_
                    refine lv_icmp_ne (tgt := 179) hx hb dX6_cement_142 (by decide) (fun c142 => ?_) (fun c142 => ?_)
                    · have hbad : cemV ft d xn z → z &&& lessN U M1 = z → z &&& M0 = M0 → cnt z 10 ≠ k := fun hv h1 h2 h3 => c142 (by rw [and_nat hz4 hW, h1])
                      have hin2 : ∀ t, t < z + 1 → cemV ft d xn t → t &&& lessN U M1 = t → t &&& M0 = M0 → cnt t 10 ≠ k := fun t ht hv h1 h2 => by rcases Nat.lt_or_ge t z with q | q; exact hin t q hv h1 h2; have e : t = z := (by omega); subst e; exact hbad hv h1 h2
                      refine lv_iinc (v := nI (z + 1)) (lv' := [(9, .int (nI (z + 1))), (0, .ref o), (1, .int (nI xn)), (4, .int (nI M0)), (6, .int (nI (lessN U M1))), (7, .int (nI (2 ^ n))), (8, .int (nI k))]) hx hb dX6_cement_179 hl (k := 6) rfl (nI_1 z) (by decide) rfl (fun ls hl => ?_)
                      refine lv_goto (tgt := 128) hx hb dX6_cement_182 (by decide) ?_
                      exact ih128 (z + 1) nm st_ d2 cn2 (by omega) (by omega) hin2 _ _ _ hw (lv_sub hl [1, 2, 3, 4, 5, 6, 0] rfl)
                    · have hz1 : z &&& lessN U M1 = z := by rw [and_nat hz4 hW] at c142; exact (nI_eq (by have : z &&& lessN U M1 ≤ z := Nat.and_le_left; omega) (by omega)).mp c142
                      refine lv_iload hx hb dX6_cement_145 (lv_at hl 6 rfl) ?_
                      refine lv_iload hx hb dX6_cement_147 (lv_at hl 2 rfl) ?_
                      refine lv_iand hx hb dX6_cement_149 ?_
                      refine lv_iload hx hb dX6_cement_150 (lv_at hl 2 rfl) ?_
                      refine lv_icmp_ne (tgt := 179) hx hb dX6_cement_152 (by decide) (fun c152 => ?_) (fun c152 => ?_)
                      · have hbad : cemV ft d xn z → z &&& lessN U M1 = z → z &&& M0 = M0 → cnt z 10 ≠ k := fun hv h1 h2 h3 => c152 (by rw [and_nat hz4 hM0l, h2])
                        have hin2 : ∀ t, t < z + 1 → cemV ft d xn t → t &&& lessN U M1 = t → t &&& M0 = M0 → cnt t 10 ≠ k := fun t ht hv h1 h2 => by rcases Nat.lt_or_ge t z with q | q; exact hin t q hv h1 h2; have e : t = z := (by omega); subst e; exact hbad hv h1 h2
                        refine lv_iinc (v := nI (z + 1)) (lv' := [(9, .int (nI (z + 1))), (0, .ref o), (1, .int (nI xn)), (4, .int (nI M0)), (6, .int (nI (lessN U M1))), (7, .int (nI (2 ^ n))), (8, .int (nI k))]) hx hb dX6_cement_179 hl (k := 6) rfl (nI_1 z) (by decide) rfl (fun ls hl => ?_)
                        refine lv_goto (tgt := 128) hx hb dX6_cement_182 (by decide) ?_
                        exact ih128 (z + 1) nm st_ d2 cn2 (by omega) (by omega) hin2 _ _ _ hw (lv_sub hl [1, 2, 3, 4, 5, 6, 0] rfl)
                      · refine lv_iload hx hb dX6_cement_155 (lv_at hl 6 rfl) ?_
                        refine s_calli (runS cf (x_bitCount (nI z)) hw [] (by decide) rfl km_J6_bitCount_0f7a4 ks_J6_bitCount_0f7a4 q573 rfl rfl hl.1 rfl dX6_cement_157) hw [] (by decide) rfl (fun _ => rfl) (fun r_21 u_19 H locs hp_20 hw => ?_)
                        have hw : WD g A s H locs [bO t2 4 (tF (lad 0) ad2 (d2 0) (d2 9) (d2 5) (d2 6) (d2 7) (d2 1) (d2 8)), bI g (ad2 1) 10 (col d2 0), bI g (ad2 2) 10 (col d2 1), bI g (ad2 3) 10 (col d2 2), bI g (ad2 4) 10 (col d2 3), bI g (ad2 5) 10 (col d2 4), bI g (ad2 6) 3 (rulF d2), bI g (ad2 7) 3 cn2, bO t 4 (tF (lad 0) ad (d 0) (d 9) (d 5) (d 6) (d 7) (d 1) (d 8)), bI g (ad 1) 10 (col d 0), bI g (ad 2) 10 (col d 1), bI g (ad 3) 10 (col d 2), bI g (ad 4) 10 (col d 3), bI g (ad 5) 10 (col d 4), bI g (ad 6) 3 (rulF d), bI g (ad 7) 3 cn, bO (lad 0) 0 ([.ref (lad 1), .ref (lad 2), .ref (lad 3)]), bR g 4 (lad 1) 14 tr, bI g (lad 2) 6 nm, bI g (lad 3) 96 st_, txb, bO o 6 (cF (lad 0) t t3 t2 ch kp tp wt)] := hw
                        subst hp_20
                        refine lv_topr (y := nI (cnt z 10)) ((bitF_ones z hz4).trans (ones_cnt hz4)) ?_
                        refine lv_iload hx hb dX6_cement_160 (lv_at hl 5 rfl) ?_
                        refine lv_icmp_ne (tgt := 179) hx hb dX6_cement_162 (by decide) (fun c162 => ?_) (fun c162 => ?_)
                        · have hbad : cemV ft d xn z → z &&& lessN U M1 = z → z &&& M0 = M0 → cnt z 10 ≠ k := fun hv h1 h2 h3 => c162 (by rw [h3])
                          have hin2 : ∀ t, t < z + 1 → cemV ft d xn t → t &&& lessN U M1 = t → t &&& M0 = M0 → cnt t 10 ≠ k := fun t ht hv h1 h2 => by rcases Nat.lt_or_ge t z with q | q; exact hin t q hv h1 h2; have e : t = z := (by omega); subst e; exact hbad hv h1 h2
                          refine lv_iinc (v := nI (z + 1)) (lv' := [(9, .int (nI (z + 1))), (0, .ref o), (1, .int (nI xn)), (4, .int (nI M0)), (6, .int (nI (lessN U M1))), (7, .int (nI (2 ^ n))), (8, .int (nI k))]) hx hb dX6_cement_179 hl (k := 6) rfl (nI_1 z) (by decide) rfl (fun ls hl => ?_)
                          refine lv_goto (tgt := 128) hx hb dX6_cement_182 (by decide) ?_
                          exact ih128 (z + 1) nm st_ d2 cn2 (by omega) (by omega) hin2 _ _ _ hw (lv_sub hl [1, 2, 3, 4, 5, 6, 0] rfl)
                        · have hck : cnt z 10 = k := (nI_eq (by omega) (by omega)).mp c162
                          refine lv_aload_n hx hb dX6_cement_165 rfl (lv_at hl 0 rfl) ?_
                          refine lv_iload hx hb dX6_cement_166 (lv_at hl 6 rfl) ?_
                          refine lv_iload_n hx hb dX6_cement_168 rfl (lv_at hl 1 rfl) ?_
                          refine lv_iconst (v := 1) hx hb dX6_cement_169 (by decide) ?_
                          refine s_calli (runV cf (x_loudWith (t := t) (lad := lad) (ad := ad) (d := d) (cn := cn) (nm := nm) (st_ := st_) (tr := tr) (txb := txb) (ft := ft) hF hFo hI (n := n) hn hn10 (ni := ni) hni h9 (o := o) (t2 := t2) (t3 := t3) (ch := ch) (kp := kp) (tp := tp) (wt := wt) (ad2 := ad2) (d2 := d2) (cn2 := cn2) (nI z) 1 xn (by omega)) hw [0, 1, 2, 3, 4, 5, 6, 7, 8, 9, 10, 11, 12, 13, 14, 15, 16, 17, 18, 19, 20, 21] (by decide) rfl km_X6_loudWith ki_X6_loudWith q569 (run_recv (ci := 6) (T := TX6) (N := 13) hw 21 rfl rfl) rfl rfl hl.1 rfl dX6_cement_170) hw [0, 1, 2, 3, 4, 5, 6, 7, 8, 9, 10, 11, 12, 13, 14, 15, 16, 17, 18, 19, 20, 21] (by decide) rfl (fun _ => rfl) (fun r_24 u_22 H locs hp_23 hw => ?_)
                          have hw : WD g A s H locs [bO t2 4 (tF (lad 0) ad2 (u_22.2.2.1 0) (u_22.2.2.1 9) (u_22.2.2.1 5) (u_22.2.2.1 6) (u_22.2.2.1 7) (u_22.2.2.1 1) (u_22.2.2.1 8)), bI g (ad2 1) 10 (col u_22.2.2.1 0), bI g (ad2 2) 10 (col u_22.2.2.1 1), bI g (ad2 3) 10 (col u_22.2.2.1 2), bI g (ad2 4) 10 (col u_22.2.2.1 3), bI g (ad2 5) 10 (col u_22.2.2.1 4), bI g (ad2 6) 3 (rulF u_22.2.2.1), bI g (ad2 7) 3 u_22.2.2.2, bO t 4 (tF (lad 0) ad (d 0) (d 9) (d 5) (d 6) (d 7) (d 1) (d 8)), bI g (ad 1) 10 (col d 0), bI g (ad 2) 10 (col d 1), bI g (ad 3) 10 (col d 2), bI g (ad 4) 10 (col d 3), bI g (ad 5) 10 (col d 4), bI g (ad 6) 3 (rulF d), bI g (ad 7) 3 cn, bO (lad 0) 0 ([.ref (lad 1), .ref (lad 2), .ref (lad 3)]), bR g 4 (lad 1) 14 tr, bI g (lad 2) 6 u_22.1, bI g (lad 3) 96 u_22.2.1, txb, bO o 6 (cF (lad 0) t t3 t2 ch kp tp wt)] := wd_re 22 [] hw (by decide) rfl rfl (by decide) (by decide) (by decide) rfl
                          subst hp_23
                          refine lv_topr (y := loudF ft (cemE ft d xn z) n) (by show _ = loudF ft (nightsF ft xn (fitSet (nI z) d)) n; rw [if_neg (by decide)]) ?_
                          refine lv_if_ne (tgt := 179) hx hb dX6_cement_173 (by decide) (fun c173 => ?_) (fun c173 => ?_)
                          · have hnv : ¬ cemV ft d xn z := fun y => c173 ((loud0_still (nH_of (cemE_0 hn) hn10) hn10).mpr y)
                            have hbad : cemV ft d xn z → z &&& lessN U M1 = z → z &&& M0 = M0 → cnt z 10 ≠ k := fun hv h1 h2 h3 => hnv hv
                            have hin2 : ∀ t, t < z + 1 → cemV ft d xn t → t &&& lessN U M1 = t → t &&& M0 = M0 → cnt t 10 ≠ k := fun t ht hv h1 h2 => by rcases Nat.lt_or_ge t z with q | q; exact hin t q hv h1 h2; have e : t = z := (by omega); subst e; exact hbad hv h1 h2
                            refine lv_iinc (v := nI (z + 1)) (lv' := [(9, .int (nI (z + 1))), (0, .ref o), (1, .int (nI xn)), (4, .int (nI M0)), (6, .int (nI (lessN U M1))), (7, .int (nI (2 ^ n))), (8, .int (nI k))]) hx hb dX6_cement_179 hl (k := 6) rfl (nI_1 z) (by decide) rfl (fun ls hl => ?_)
                            refine lv_goto (tgt := 128) hx hb dX6_cement_182 (by decide) ?_
                            exact ih128 (z + 1) u_22.1 u_22.2.1 u_22.2.2.1 u_22.2.2.2 (by omega) (by omega) hin2 _ _ _ hw (lv_sub hl [1, 2, 3, 4, 5, 6, 0] rfl)
                          · have hv : cemV ft d xn z := (loud0_still (nH_of (cemE_0 hn) hn10) hn10).mp c173
                            refine lv_iload hx hb dX6_cement_176 (lv_at hl 6 rfl) ?_
                            exact s_iret cf hr hlk (u_22.1, u_22.2.1, u_22.2.2.1, u_22.2.2.2) hw ((R_cem_hit hI hn hn10 hni (by omega) c6 hcl (by omega) hUb hM0 hM1 hlt hv (fun t ht hvt h1 h2 => by rw [hck]; exact hout t ht hvt h1 h2) (fun t ht hvt h1 h2 => by rw [hck]; exact hin t ht hvt h1 h2)).symm) (Nat.le_of_ble_eq_true rfl) (Nat.le_of_ble_eq_true rfl) dX6_cement_178 hQ
              exact L128 1025 M0 nm st_ d2 cn2 (by omega) (by omega) (fun t ht hv h1 h2 => absurd (show M0 ≤ t by rw [← h2]; exact Nat.and_le_left) (by omega)) _ _ _ hw (lv_sub hl [1, 2, 3, 4, 5, 6, 0] rfl)
        exact L112 13 (cnt M0 10) u_13.1 u_13.2.1 u_13.2.2.1 u_13.2.2.2 (by omega) (by omega) (fun t ht hv h1 h2 => cnt_mono (sub_iff.mp (by rw [Nat.and_comm]; exact h2)) 10) _ _ _ hw (lv_sub hl [7, 8, 4, 2, 1, 0] rfl)
      refine lv_aload_n hx hb dX6_cement_61 rfl (lv_at hl 4 rfl) ?_
      refine s_get (v := .ref t) fb6 cf hw 21 rfl 1 rfl q307 rfl dX6_cement_62 ?_
      refine s_getN (v := .int (d 0)) fb4 cf hw 8 rfl 8 rfl q174 rfl dX6_cement_65 ?_
      refine lv_if_le (tgt := 86) hx hb dX6_cement_68 (by decide) (fun c68 => ?_) (fun c68 => ?_)
      · exact L86  _ _ _ hw (lv_sub hl [0, 1, 2, 3, 4, 5] rfl)
      · refine lv_aload_n hx hb dX6_cement_71 rfl (lv_at hl 4 rfl) ?_
        refine s_get (v := .ref t) fb6 cf hw 21 rfl 1 rfl q307 rfl dX6_cement_72 ?_
        refine s_getN (v := .ref (ad 6)) fb4 cf hw 8 rfl 6 rfl q170 rfl dX6_cement_75 ?_
        refine lv_iconst (v := 0) hx hb dX6_cement_78 (by decide) ?_
        refine s_iald (j := 0) cf hw 14 rfl (rfl) (by decide) rfl dX6_cement_79 ?_
        refine lv_topr (y := d 2) (rfl) ?_
        refine lv_if_ne (tgt := 86) hx hb dX6_cement_80 (by decide) (fun c80 => ?_) (fun c80 => ?_)
        · exact L86  _ _ _ hw (lv_sub hl [0, 1, 2, 3, 4, 5] rfl)
        · refine lv_ldc hx hb hown (hts _ q552) dX6_cement_83 ?_
          exact s_iret cf hr hlk (u_13.1, u_13.2.1, u_13.2.2.1, u_13.2.2.2) hw ((R_cem_none hn hn10 c6 hcl (fun t ht => cem_ear0 hI hn hn10 (by rcases Nat.eq_zero_or_pos n with q | q; exact absurd (show d 0 ≤ 0 by rw [hn, q]; decide) c68; exact q) c80)).symm) (Nat.le_of_ble_eq_true rfl) (Nat.le_of_ble_eq_true rfl) dX6_cement_85 hQ
  · have c6 := b01_z c6
    refine lv_ldc hx hb hown (hts _ q356) dX6_cement_9 ?_
    exact s_iret cf hr hlk (nm, st_, d2, cn2) hw (by unfold R_cement; rw [if_neg c6]) (Nat.le_of_ble_eq_true rfl) (Nat.le_of_ble_eq_true rfl) dX6_cement_11 hQ
