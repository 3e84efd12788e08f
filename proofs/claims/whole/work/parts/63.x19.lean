set_option maxRecDepth 100000 in
set_option maxHeartbeats 4000000 in
theorem c_fee {l : Launch} {g : GG} {t : Nat} {lad ad : Nat → Nat} {d cn : DD} {nm st_ : DD} {tr : Nat → Option Nat} {txb : va_W} {fx : TXC} (hF : FitAt g tr txb (cn 1) fx) (hFo : okN2 10004 10005 fx) {o t2 t3 : Nat} {ch : Nat → Nat} {kp tp wt : Int32} : Ct l g yX6_fee cX6_fee 1 (Option.some Jvm.ClassFile.FieldType.int) 3 0 0 [.ref o] [bO t 4 (tF (lad 0) ad (d 0) (d 9) (d 5) (d 6) (d 7) (d 1) (d 8)), bI g (ad 1) 10 (col d 0), bI g (ad 2) 10 (col d 1), bI g (ad 3) 10 (col d 2), bI g (ad 4) 10 (col d 3), bI g (ad 5) 10 (col d 4), bI g (ad 6) 3 (rulF d), bI g (ad 7) 3 cn, bO (lad 0) 0 ([.ref (lad 1), .ref (lad 2), .ref (lad 3)]), bR g 4 (lad 1) 14 tr, bI g (lad 2) 6 nm, bI g (lad 3) 96 st_, txb, bO o 6 (cF (lad 0) t t3 t2 ch kp tp wt)] (QI g (fun r (_ : DD × DD) => r = feeX fx d) (fun u => [bO t 4 (tF (lad 0) ad (d 0) (d 9) (d 5) (d 6) (d 7) (d 1) (d 8)), bI g (ad 1) 10 (col d 0), bI g (ad 2) 10 (col d 1), bI g (ad 3) 10 (col d 2), bI g (ad 4) 10 (col d 3), bI g (ad 5) 10 (col d 4), bI g (ad 6) 3 (rulF d), bI g (ad 7) 3 cn, bO (lad 0) 0 ([.ref (lad 1), .ref (lad 2), .ref (lad 3)]), bR g 4 (lad 1) 14 tr, bI g (lad 2) 6 u.1, bI g (lad 3) 96 u.2, txb, bO o 6 (cF (lad 0) t t3 t2 ch kp tp wt)])) := by
  refine Ct.of (by decide) rfl ?_
  intro p e s m args below meth c A H locs ls Qf cf hr hlk hnm hQ hw hl
  have hx := cf.1
  have hb := cf.2.1
  have hml := cf.2.2.1
  have hown := cf.2.2.2.1
  have hts := cf.2.2.2.2
  have hw : WD g A s H locs [bO t 4 (tF (lad 0) ad (d 0) (d 9) (d 5) (d 6) (d 7) (d 1) (d 8)), bI g (ad 1) 10 (col d 0), bI g (ad 2) 10 (col d 1), bI g (ad 3) 10 (col d 2), bI g (ad 4) 10 (col d 3), bI g (ad 5) 10 (col d 4), bI g (ad 6) 3 (rulF d), bI g (ad 7) 3 cn, bO (lad 0) 0 ([.ref (lad 1), .ref (lad 2), .ref (lad 3)]), bR g 4 (lad 1) 14 tr, bI g (lad 2) 6 nm, bI g (lad 3) 96 st_, txb, bO o 6 (cF (lad 0) t t3 t2 ch kp tp wt)] := hw
  have hl : lv_has ls 1 [(0, .ref o)] := hl
  refine lv_aload_n hx hb dX6_fee_0 rfl (lv_at hl 0 rfl) ?_
  refine s_get (v := .ref t) fb6 cf hw 13 rfl 1 rfl q307 rfl dX6_fee_1 ?_
  refine s_calli (runVN cf (x_feeNow (t := t) (lad := lad) (ad := ad) (d := d) (cn := cn) (nm := nm) (st_ := st_) (tr := tr) (txb := txb) (fx := fx) hF hFo) hw [0, 7, 8, 9, 10, 11, 12] (by decide) rfl km_X4_feeNow ki_X4_feeNow q622 (run_recv (ci := 4) (T := TX4) (N := 15) hw 0 rfl rfl) rfl rfl hl.1 rfl dX6_fee_4) hw [0, 7, 8, 9, 10, 11, 12] (by decide) rfl (fun _ => rfl) (fun r_3 u_1 H locs hp_2 hw => ?_)
  have hw : WD g A s H locs [bO t 4 (tF (lad 0) ad (d 0) (d 9) (d 5) (d 6) (d 7) (d 1) (d 8)), bI g (ad 1) 10 (col d 0), bI g (ad 2) 10 (col d 1), bI g (ad 3) 10 (col d 2), bI g (ad 4) 10 (col d 3), bI g (ad 5) 10 (col d 4), bI g (ad 6) 3 (rulF d), bI g (ad 7) 3 cn, bO (lad 0) 0 ([.ref (lad 1), .ref (lad 2), .ref (lad 3)]), bR g 4 (lad 1) 14 tr, bI g (lad 2) 6 u_1.1, bI g (lad 3) 96 u_1.2, txb, bO o 6 (cF (lad 0) t t3 t2 ch kp tp wt)] := hw
  subst hp_2
  exact s_iret cf hr hlk (u_1.1, u_1.2) hw rfl (Nat.le_of_ble_eq_true rfl) (Nat.le_of_ble_eq_true rfl) dX6_fee_7 hQ
set_option maxRecDepth 100000 in
set_option maxHeartbeats 4000000 in
theorem c_fine {l : Launch} {g : GG} {t : Nat} {lad ad : Nat → Nat} {d cn : DD} {nm st_ : DD} {tr : Nat → Option Nat} {txb : va_W} {fx : TXC} (hF : FitAt g tr txb (cn 2) fx) (hFo : okN2 10000 10002 fx) {n : Nat} (hn : d 0 = nI n) (hn10 : n ≤ 10) {o t2 t3 : Nat} {ch : Nat → Nat} {kp tp wt : Int32} (x : Int32) : Ct l g yX6_fine cX6_fine 2 (Option.some Jvm.ClassFile.FieldType.int) 3 0 0 [.ref o, .int x] [bO t 4 (tF (lad 0) ad (d 0) (d 9) (d 5) (d 6) (d 7) (d 1) (d 8)), bI g (ad 1) 10 (col d 0), bI g (ad 2) 10 (col d 1), bI g (ad 3) 10 (col d 2), bI g (ad 4) 10 (col d 3), bI g (ad 5) 10 (col d 4), bI g (ad 6) 3 (rulF d), bI g (ad 7) 3 cn, bO (lad 0) 0 ([.ref (lad 1), .ref (lad 2), .ref (lad 3)]), bR g 4 (lad 1) 14 tr, bI g (lad 2) 6 nm, bI g (lad 3) 96 st_, txb, bO o 6 (cF (lad 0) t t3 t2 ch kp tp wt)] (QI g (fun r (_ : DD × DD) => r = if isH d x then fineX fx d x.toNatClampNeg else -1000000001) (fun u => [bO t 4 (tF (lad 0) ad (d 0) (d 9) (d 5) (d 6) (d 7) (d 1) (d 8)), bI g (ad 1) 10 (col d 0), bI g (ad 2) 10 (col d 1), bI g (ad 3) 10 (col d 2), bI g (ad 4) 10 (col d 3), bI g (ad 5) 10 (col d 4), bI g (ad 6) 3 (rulF d), bI g (ad 7) 3 cn, bO (lad 0) 0 ([.ref (lad 1), .ref (lad 2), .ref (lad 3)]), bR g 4 (lad 1) 14 tr, bI g (lad 2) 6 u.1, bI g (lad 3) 96 u.2, txb, bO o 6 (cF (lad 0) t t3 t2 ch kp tp wt)])) := by
  refine Ct.of (by decide) rfl ?_
  intro p e s m args below meth c A H locs ls Qf cf hr hlk hnm hQ hw hl
  have hx := cf.1
  have hb := cf.2.1
  have hml := cf.2.2.1
  have hown := cf.2.2.2.1
  have hts := cf.2.2.2.2
  have hw : WD g A s H locs [bO t 4 (tF (lad 0) ad (d 0) (d 9) (d 5) (d 6) (d 7) (d 1) (d 8)), bI g (ad 1) 10 (col d 0), bI g (ad 2) 10 (col d 1), bI g (ad 3) 10 (col d 2), bI g (ad 4) 10 (col d 3), bI g (ad 5) 10 (col d 4), bI g (ad 6) 3 (rulF d), bI g (ad 7) 3 cn, bO (lad 0) 0 ([.ref (lad 1), .ref (lad 2), .ref (lad 3)]), bR g 4 (lad 1) 14 tr, bI g (lad 2) 6 nm, bI g (lad 3) 96 st_, txb, bO o 6 (cF (lad 0) t t3 t2 ch kp tp wt)] := hw
  have hl : lv_has ls 2 [(0, .ref o), (1, .int x)] := hl
  refine lv_aload_n hx hb dX6_fine_0 rfl (lv_at hl 0 rfl) ?_
  refine s_get (v := .ref t) fb6 cf hw 13 rfl 1 rfl q307 rfl dX6_fine_1 ?_
  refine lv_iload_n hx hb dX6_fine_4 rfl (lv_at hl 1 rfl) ?_
  refine s_calli (runVN cf (x_has (cn := cn) (t := t) (lad := lad) (ad := ad) (d := d) (n := n) hn hn10 x) hw [0] (by decide) rfl km_X4_has ki_X4_has q367 (run_recv (ci := 4) (T := TX4) (N := 15) hw 0 rfl rfl) rfl rfl hl.1 rfl dX6_fine_5) hw [0] (by decide) rfl (fun _ => rfl) (fun r_3 u_1 H locs hp_2 hw => ?_)
  have hw : WD g A s H locs [bO t 4 (tF (lad 0) ad (d 0) (d 9) (d 5) (d 6) (d 7) (d 1) (d 8)), bI g (ad 1) 10 (col d 0), bI g (ad 2) 10 (col d 1), bI g (ad 3) 10 (col d 2), bI g (ad 4) 10 (col d 3), bI g (ad 5) 10 (col d 4), bI g (ad 6) 3 (rulF d), bI g (ad 7) 3 cn, bO (lad 0) 0 ([.ref (lad 1), .ref (lad 2), .ref (lad 3)]), bR g 4 (lad 1) 14 tr, bI g (lad 2) 6 nm, bI g (lad 3) 96 st_, txb, bO o 6 (cF (lad 0) t t3 t2 ch kp tp wt)] := hw
  subst hp_2
  refine lv_if_eq (tgt := 22) hx hb dX6_fine_8 (by decide) (fun c8 => ?_) (fun c8 => ?_)
  · have c8 := b01_z c8
    refine lv_ldc hx hb hown (hts _ q356) dX6_fine_22 ?_
    exact s_iret cf hr hlk (nm, st_) hw (by rw [if_neg c8]) (Nat.le_of_ble_eq_true rfl) (Nat.le_of_ble_eq_true rfl) dX6_fine_24 hQ
  · have c8 := b01_n c8
    obtain ⟨j, hjn, hxj, hcl⟩ := isH_nat hn hn10 c8
    subst hxj
    refine lv_aload_n hx hb dX6_fine_11 rfl (lv_at hl 0 rfl) ?_
    refine s_get (v := .ref t) fb6 cf hw 13 rfl 1 rfl q307 rfl dX6_fine_12 ?_
    refine lv_iload_n hx hb dX6_fine_15 rfl (lv_at hl 1 rfl) ?_
    refine s_calli (runVN cf (x_fineOf (t := t) (lad := lad) (ad := ad) (d := d) (cn := cn) (nm := nm) (st_ := st_) (tr := tr) (txb := txb) (fx := fx) hF hFo j (by omega)) hw [0, 2, 4, 7, 8, 9, 10, 11, 12] (by decide) rfl km_X4_fineOf ki_X4_fineOf q630 (run_recv (ci := 4) (T := TX4) (N := 15) hw 0 rfl rfl) rfl rfl hl.1 rfl dX6_fine_16) hw [0, 2, 4, 7, 8, 9, 10, 11, 12] (by decide) rfl (fun _ => rfl) (fun r_6 u_4 H locs hp_5 hw => ?_)
    have hw : WD g A s H locs [bO t 4 (tF (lad 0) ad (d 0) (d 9) (d 5) (d 6) (d 7) (d 1) (d 8)), bI g (ad 1) 10 (col d 0), bI g (ad 2) 10 (col d 1), bI g (ad 3) 10 (col d 2), bI g (ad 4) 10 (col d 3), bI g (ad 5) 10 (col d 4), bI g (ad 6) 3 (rulF d), bI g (ad 7) 3 cn, bO (lad 0) 0 ([.ref (lad 1), .ref (lad 2), .ref (lad 3)]), bR g 4 (lad 1) 14 tr, bI g (lad 2) 6 u_4.1, bI g (lad 3) 96 u_4.2, txb, bO o 6 (cF (lad 0) t t3 t2 ch kp tp wt)] := hw
    subst hp_5
    refine lv_goto (tgt := 24) hx hb dX6_fine_19 (by decide) ?_
    exact s_iret cf hr hlk (u_4.1, u_4.2) hw (by rw [if_pos c8, hcl]) (Nat.le_of_ble_eq_true rfl) (Nat.le_of_ble_eq_true rfl) dX6_fine_24 hQ
set_option maxRecDepth 100000 in
set_option maxHeartbeats 4000000 in
theorem c_textTold {l : Launch} {g : GG} {t : Nat} {lad ad : Nat → Nat} {d cn : DD} {nm st_ kf wf : DD} {tr : Nat → Option Nat} {txb : va_W} {nt : Nat} (hT : TTx g tr txb kf wf nt) (hnt : d 9 = nI nt) (hnt14 : nt ≤ 14) {o t2 t3 : Nat} {ch : Nat → Nat} {kp tp wt : Int32} (x w : Int32) : Ct l g yX6_textTold cX6_textTold 4 (Option.some Jvm.ClassFile.FieldType.int) 1 0 0 [.ref o, .int x, .int w] [bO t 4 (tF (lad 0) ad (d 0) (d 9) (d 5) (d 6) (d 7) (d 1) (d 8)), bO o 6 (cF (lad 0) t t3 t2 ch kp tp wt), bO (lad 0) 0 ([.ref (lad 1), .ref (lad 2), .ref (lad 3)]), bR g 4 (lad 1) 14 tr, bI g (lad 2) 6 nm, bI g (lad 3) 96 st_, txb] (QI g (fun r (_ : Unit) => r = R_textTold d kf wf x w) (fun _ => [bO t 4 (tF (lad 0) ad (d 0) (d 9) (d 5) (d 6) (d 7) (d 1) (d 8)), bO o 6 (cF (lad 0) t t3 t2 ch kp tp wt), bO (lad 0) 0 ([.ref (lad 1), .ref (lad 2), .ref (lad 3)]), bR g 4 (lad 1) 14 tr, bI g (lad 2) 6 nm, bI g (lad 3) 96 st_, txb])) := by
  refine Ct.of (by decide) rfl ?_
  intro p e s m args below meth c A H locs ls Qf cf hr hlk hnm hQ hw hl
  have hx := cf.1
  have hb := cf.2.1
  have hml := cf.2.2.1
  have hown := cf.2.2.2.1
  have hts := cf.2.2.2.2
  have hw : WD g A s H locs [bO t 4 (tF (lad 0) ad (d 0) (d 9) (d 5) (d 6) (d 7) (d 1) (d 8)), bO o 6 (cF (lad 0) t t3 t2 ch kp tp wt), bO (lad 0) 0 ([.ref (lad 1), .ref (lad 2), .ref (lad 3)]), bR g 4 (lad 1) 14 tr, bI g (lad 2) 6 nm, bI g (lad 3) 96 st_, txb] := hw
  have hl : lv_has ls 4 [(0, .ref o), (1, .int x), (2, .int w)] := hl
  refine lv_iload_n hx hb dX6_textTold_0 rfl (lv_at hl 1 rfl) ?_
  refine lv_aload_n hx hb dX6_textTold_1 rfl (lv_at hl 0 rfl) ?_
  refine s_get (v := .ref t) fb6 cf hw 1 rfl 1 rfl q307 rfl dX6_textTold_2 ?_
  refine s_getN (v := .int (d 9)) fb4 cf hw 0 rfl 9 rfl q176 rfl dX6_textTold_5 ?_
  refine lv_icmp_ge (tgt := 22) hx hb dX6_textTold_8 (by decide) (fun c8 => ?_) (fun c8 => ?_)
  · refine lv_null hx hb dX6_textTold_22 ?_
    refine lv_astore_nN (lv' := [(3, .null), (0, .ref o), (1, .int x), (2, .int w)]) hx hb dX6_textTold_23 rfl hl (by decide) rfl (fun ls hl => ?_)
    refine lv_aload_nN hx hb dX6_textTold_24 rfl (lv_at hl 0 rfl) ?_
    refine lv_ifnullN (tgt := 36) hx hb dX6_textTold_25 (by decide) ?_
    refine lv_ldc hx hb hown (hts _ q356) dX6_textTold_36 ?_
    exact s_iret cf hr hlk () hw (by unfold R_textTold; rw [if_neg (fun z => absurd ((lt_pred hnt (by omega) z.1.1).mpr z.1.2) (Int32.not_lt.mpr c8))]) (Nat.le_of_ble_eq_true rfl) (Nat.le_of_ble_eq_true rfl) dX6_textTold_38 hQ
  · refine lv_aload_n hx hb dX6_textTold_11 rfl (lv_at hl 0 rfl) ?_
    refine s_get (v := .ref (lad 0)) fb6 cf hw 1 rfl 0 rfl q306 rfl dX6_textTold_12 ?_
    refine lv_iload_n hx hb dX6_textTold_15 rfl (lv_at hl 1 rfl) ?_
    refine s_callq (runVN cf (x_at (lad := lad) (tr := tr) x) hw [2, 3] (by decide) rfl km_X0_at ki_X0_at q824 (run_recv (ci := 0) (T := TX0) (N := 3) hw 2 rfl rfl) rfl rfl hl.1 rfl dX6_textTold_16) hw [2, 3] (by decide) rfl (fun _ => rfl) (fun r_3 u_1 H locs hp_2 hw => ?_)
    have hw : WD g A s H locs [bO t 4 (tF (lad 0) ad (d 0) (d 9) (d 5) (d 6) (d 7) (d 1) (d 8)), bO o 6 (cF (lad 0) t t3 t2 ch kp tp wt), bO (lad 0) 0 ([.ref (lad 1), .ref (lad 2), .ref (lad 3)]), bR g 4 (lad 1) 14 tr, bI g (lad 2) 6 nm, bI g (lad 3) 96 st_, txb] := hw
    subst hp_2
    by_cases hx0 : 0 ≤ x
    · have hxr : 0 ≤ x ∧ x ≤ d 9 - 1 := ⟨hx0, (lt_pred hnt (by omega) hx0).mp (Int32.not_le.mp c8)⟩
      obtain ⟨j, hjn, hxj, hcl⟩ := below_nat hnt (by omega) hxr
      obtain ⟨xa, ca, len, tc, ot, htr, hlen, hperm⟩ := hT j hjn
      have hat : atF tr x = some xa := by unfold atF; rw [if_pos ⟨hx0, by rw [hxj]; exact nI_le (b := 13) (by omega) (by omega)⟩, hcl]; exact htr
      refine lv_topv (y := .ref xa) (by rw [hat]; rfl) ?_
      have hw : WD g A s H locs [bO t 4 (tF (lad 0) ad (d 0) (d 9) (d 5) (d 6) (d 7) (d 1) (d 8)), bO o 6 (cF (lad 0) t t3 t2 ch kp tp wt), bO (lad 0) 0 ([.ref (lad 1), .ref (lad 2), .ref (lad 3)]), bR g 4 (lad 1) 14 tr, bI g (lad 2) 6 nm, bI g (lad 3) 96 st_, bO xa 5 ([.int (kf j), .int (wf j), .ref ca]), bI g ca len tc, ot] := WD.opn (pre := [bO t 4 (tF (lad 0) ad (d 0) (d 9) (d 5) (d 6) (d 7) (d 1) (d 8)), bO o 6 (cF (lad 0) t t3 t2 ch kp tp wt), bO (lad 0) 0 ([.ref (lad 1), .ref (lad 2), .ref (lad 3)]), bR g 4 (lad 1) 14 tr, bI g (lad 2) 6 nm, bI g (lad 3) 96 st_]) hw hperm
      refine lv_goto (tgt := 23) hx hb dX6_textTold_19 (by decide) ?_
      refine lv_astore_n (lv' := [(3, .ref xa), (0, .ref o), (1, .int x), (2, .int w)]) hx hb dX6_textTold_23 rfl hl (by decide) rfl (fun ls hl => ?_)
      refine lv_aload_n hx hb dX6_textTold_24 rfl (lv_at hl 0 rfl) ?_
      refine lv_ifnull hx hb dX6_textTold_25 ?_
      refine lv_iload_n hx hb dX6_textTold_28 rfl (lv_at hl 3 rfl) ?_
      refine lv_iconst (v := 1) hx hb dX6_textTold_29 (by decide) ?_
      refine s_calli (runS cf (x_isWithin w 1) hw [] (by decide) rfl km_X6_isWithin ks_X6_isWithin q353 rfl rfl hl.1 rfl dX6_textTold_30) hw [] (by decide) rfl (fun _ => rfl) (fun r_6 u_4 H locs hp_5 hw => ?_)
      have hw : WD g A s H locs [bO t 4 (tF (lad 0) ad (d 0) (d 9) (d 5) (d 6) (d 7) (d 1) (d 8)), bO o 6 (cF (lad 0) t t3 t2 ch kp tp wt), bO (lad 0) 0 ([.ref (lad 1), .ref (lad 2), .ref (lad 3)]), bR g 4 (lad 1) 14 tr, bI g (lad 2) 6 nm, bI g (lad 3) 96 st_, bO xa 5 ([.int (kf j), .int (wf j), .ref ca]), bI g ca len tc, ot] := hw
      subst hp_5
      refine lv_if_ne (tgt := 39) hx hb dX6_textTold_33 (by decide) (fun c33 => ?_) (fun c33 => ?_)
      · have c33 := b01_n c33
        refine lv_iload_n hx hb dX6_textTold_39 rfl (lv_at hl 3 rfl) ?_
        refine lv_if_ne (tgt := 50) hx hb dX6_textTold_40 (by decide) (fun c40 => ?_) (fun c40 => ?_)
        · refine lv_aload_n hx hb dX6_textTold_50 rfl (lv_at hl 0 rfl) ?_
          refine s_getN (v := .int (wf j)) fb5 cf hw 6 rfl 1 rfl q811 rfl dX6_textTold_51 ?_
          have hw : WD g A s H locs [bO t 4 (tF (lad 0) ad (d 0) (d 9) (d 5) (d 6) (d 7) (d 1) (d 8)), bO o 6 (cF (lad 0) t t3 t2 ch kp tp wt), bO (lad 0) 0 ([.ref (lad 1), .ref (lad 2), .ref (lad 3)]), bR g 4 (lad 1) 14 tr, bI g (lad 2) 6 nm, bI g (lad 3) 96 st_, txb] := WD.cls (pre := [bO t 4 (tF (lad 0) ad (d 0) (d 9) (d 5) (d 6) (d 7) (d 1) (d 8)), bO o 6 (cF (lad 0) t t3 t2 ch kp tp wt), bO (lad 0) 0 ([.ref (lad 1), .ref (lad 2), .ref (lad 3)]), bR g 4 (lad 1) 14 tr, bI g (lad 2) 6 nm, bI g (lad 3) 96 st_]) hw hperm
          exact s_iret cf hr hlk () hw (by unfold R_textTold; rw [if_pos ⟨hxr, c33⟩, hcl, if_neg c40]) (Nat.le_of_ble_eq_true rfl) (Nat.le_of_ble_eq_true rfl) dX6_textTold_54 hQ
        · refine lv_aload_n hx hb dX6_textTold_43 rfl (lv_at hl 0 rfl) ?_
          refine s_getN (v := .int (kf j)) fb5 cf hw 6 rfl 0 rfl q809 rfl dX6_textTold_44 ?_
          refine lv_goto (tgt := 54) hx hb dX6_textTold_47 (by decide) ?_
          have hw : WD g A s H locs [bO t 4 (tF (lad 0) ad (d 0) (d 9) (d 5) (d 6) (d 7) (d 1) (d 8)), bO o 6 (cF (lad 0) t t3 t2 ch kp tp wt), bO (lad 0) 0 ([.ref (lad 1), .ref (lad 2), .ref (lad 3)]), bR g 4 (lad 1) 14 tr, bI g (lad 2) 6 nm, bI g (lad 3) 96 st_, txb] := WD.cls (pre := [bO t 4 (tF (lad 0) ad (d 0) (d 9) (d 5) (d 6) (d 7) (d 1) (d 8)), bO o 6 (cF (lad 0) t t3 t2 ch kp tp wt), bO (lad 0) 0 ([.ref (lad 1), .ref (lad 2), .ref (lad 3)]), bR g 4 (lad 1) 14 tr, bI g (lad 2) 6 nm, bI g (lad 3) 96 st_]) hw hperm
          exact s_iret cf hr hlk () hw (by unfold R_textTold; rw [if_pos ⟨hxr, c33⟩, hcl, if_pos c40]) (Nat.le_of_ble_eq_true rfl) (Nat.le_of_ble_eq_true rfl) dX6_textTold_54 hQ
      · have c33 := b01_z c33
        refine lv_ldc hx hb hown (hts _ q356) dX6_textTold_36 ?_
        have hw : WD g A s H locs [bO t 4 (tF (lad 0) ad (d 0) (d 9) (d 5) (d 6) (d 7) (d 1) (d 8)), bO o 6 (cF (lad 0) t t3 t2 ch kp tp wt), bO (lad 0) 0 ([.ref (lad 1), .ref (lad 2), .ref (lad 3)]), bR g 4 (lad 1) 14 tr, bI g (lad 2) 6 nm, bI g (lad 3) 96 st_, txb] := WD.cls (pre := [bO t 4 (tF (lad 0) ad (d 0) (d 9) (d 5) (d 6) (d 7) (d 1) (d 8)), bO o 6 (cF (lad 0) t t3 t2 ch kp tp wt), bO (lad 0) 0 ([.ref (lad 1), .ref (lad 2), .ref (lad 3)]), bR g 4 (lad 1) 14 tr, bI g (lad 2) 6 nm, bI g (lad 3) 96 st_]) hw hperm
        exact s_iret cf hr hlk () hw (by unfold R_textTold; rw [if_neg (fun z => c33 z.2)]) (Nat.le_of_ble_eq_true rfl) (Nat.le_of_ble_eq_true rfl) dX6_textTold_38 hQ
    · have hat : atF tr x = none := if_neg (fun z => hx0 z.1)
      refine lv_topv (y := .null) (by rw [hat]; rfl) ?_
      refine lv_goto (tgt := 23) hx hb dX6_textTold_19 (by decide) ?_
      refine lv_astore_nN (lv' := [(3, .null), (0, .ref o), (1, .int x), (2, .int w)]) hx hb dX6_textTold_23 rfl hl (by decide) rfl (fun ls hl => ?_)
      refine lv_aload_nN hx hb dX6_textTold_24 rfl (lv_at hl 0 rfl) ?_
      refine lv_ifnullN (tgt := 36) hx hb dX6_textTold_25 (by decide) ?_
      refine lv_ldc hx hb hown (hts _ q356) dX6_textTold_36 ?_
      exact s_iret cf hr hlk () hw (by unfold R_textTold; rw [if_neg (fun z => hx0 z.1.1)]) (Nat.le_of_ble_eq_true rfl) (Nat.le_of_ble_eq_true rfl) dX6_textTold_38 hQ
set_option maxRecDepth 100000 in
set_option maxHeartbeats 4000000 in
theorem c_check {l : Launch} {g : GG} {t : Nat} {lad ad : Nat → Nat} {d cn : DD} {nm st_ : DD} {tr : Nat → Option Nat} {txb : va_W} {ft : TXC} (hF : FitAt g tr txb (cn 0) ft) (hFo : okF ft) (hI : InvH d) {n : Nat} (hn : d 0 = nI n) (hn10 : n ≤ 10) {ni : Nat} (hni : d 1 = nI ni) (h9 : ni ≤ 9999) {o t0 t2 : Nat} {ch : Nat → Nat} {kp tp : Int32} {ad2 : Nat → Nat} {d2 cn2 : DD} {ws : DD} {wn : Nat} (hwn : wn ≤ 60) (x : Int32) : Ct l g yX6_check cX6_check 6 (Option.some Jvm.ClassFile.FieldType.int) 6 0 0 [.ref o, .int x] [bO t2 4 (tF (lad 0) ad2 (d2 0) (d2 9) (d2 5) (d2 6) (d2 7) (d2 1) (d2 8)), bI g (ad2 1) 10 (col d2 0), bI g (ad2 2) 10 (col d2 1), bI g (ad2 3) 10 (col d2 2), bI g (ad2 4) 10 (col d2 3), bI g (ad2 5) 10 (col d2 4), bI g (ad2 6) 3 (rulF d2), bI g (ad2 7) 3 cn2, bO t 4 (tF (lad 0) ad (d 0) (d 9) (d 5) (d 6) (d 7) (d 1) (d 8)), bI g (ad 1) 10 (col d 0), bI g (ad 2) 10 (col d 1), bI g (ad 3) 10 (col d 2), bI g (ad 4) 10 (col d 3), bI g (ad 5) 10 (col d 4), bI g (ad 6) 3 (rulF d), bI g (ad 7) 3 cn, bO (lad 0) 0 ([.ref (lad 1), .ref (lad 2), .ref (lad 3)]), bR g 4 (lad 1) 14 tr, bI g (lad 2) 6 nm, bI g (lad 3) 96 st_, txb, bO o 6 (cF (lad 0) t0 t t2 ch kp tp (nI wn)), bI g (ch 10) 60 ws] (QI g (fun r (_ : DD × DD × DD × DD) => r = R_check ft d ws kp wn x) (fun u => [bO t2 4 (tF (lad 0) ad2 (u.2.2.1 0) (u.2.2.1 9) (u.2.2.1 5) (u.2.2.1 6) (u.2.2.1 7) (u.2.2.1 1) (u.2.2.1 8)), bI g (ad2 1) 10 (col u.2.2.1 0), bI g (ad2 2) 10 (col u.2.2.1 1), bI g (ad2 3) 10 (col u.2.2.1 2), bI g (ad2 4) 10 (col u.2.2.1 3), bI g (ad2 5) 10 (col u.2.2.1 4), bI g (ad2 6) 3 (rulF u.2.2.1), bI g (ad2 7) 3 u.2.2.2, bO t 4 (tF (lad 0) ad (d 0) (d 9) (d 5) (d 6) (d 7) (d 1) (d 8)), bI g (ad 1) 10 (col d 0), bI g (ad 2) 10 (col d 1), bI g (ad 3) 10 (col d 2), bI g (ad 4) 10 (col d 3), bI g (ad 5) 10 (col d 4), bI g (ad 6) 3 (rulF d), bI g (ad 7) 3 cn, bO (lad 0) 0 ([.ref (lad 1), .ref (lad 2), .ref (lad 3)]), bR g 4 (lad 1) 14 tr, bI g (lad 2) 6 u.1, bI g (lad 3) 96 u.2.1, txb, bO o 6 (cF (lad 0) t0 t t2 ch kp tp 0), bI g (ch 10) 60 ws])) := by
  refine Ct.of (by decide) rfl ?_
  intro p e s m args below meth c A H locs ls Qf cf hr hlk hnm hQ hw hl
  have hx := cf.1
  have hb := cf.2.1
  have hml := cf.2.2.1
  have hown := cf.2.2.2.1
  have hts := cf.2.2.2.2
  have hw : WD g A s H locs [bO t2 4 (tF (lad 0) ad2 (d2 0) (d2 9) (d2 5) (d2 6) (d2 7) (d2 1) (d2 8)), bI g (ad2 1) 10 (col d2 0), bI g (ad2 2) 10 (col d2 1), bI g (ad2 3) 10 (col d2 2), bI g (ad2 4) 10 (col d2 3), bI g (ad2 5) 10 (col d2 4), bI g (ad2 6) 3 (rulF d2), bI g (ad2 7) 3 cn2, bO t 4 (tF (lad 0) ad (d 0) (d 9) (d 5) (d 6) (d 7) (d 1) (d 8)), bI g (ad 1) 10 (col d 0), bI g (ad 2) 10 (col d 1), bI g (ad 3) 10 (col d 2), bI g (ad 4) 10 (col d 3), bI g (ad 5) 10 (col d 4), bI g (ad 6) 3 (rulF d), bI g (ad 7) 3 cn, bO (lad 0) 0 ([.ref (lad 1), .ref (lad 2), .ref (lad 3)]), bR g 4 (lad 1) 14 tr, bI g (lad 2) 6 nm, bI g (lad 3) 96 st_, txb, bO o 6 (cF (lad 0) t0 t t2 ch kp tp (nI wn)), bI g (ch 10) 60 ws] := hw
  have hl : lv_has ls 6 [(0, .ref o), (1, .int x)] := hl
  refine lv_aload_n hx hb dX6_check_0 rfl (lv_at hl 0 rfl) ?_
  refine s_get (v := .int (nI wn)) fb6 cf hw 21 rfl 11 rfl q317 rfl dX6_check_1 ?_
  refine lv_istore_n (lv' := [(2, .int (nI wn)), (0, .ref o), (1, .int x)]) hx hb dX6_check_4 rfl hl (by decide) rfl (fun ls hl => ?_)
  refine lv_aload_n hx hb dX6_check_5 rfl (lv_at hl 1 rfl) ?_
  refine lv_iconst (v := 0) hx hb dX6_check_6 (by decide) ?_
  refine s_put (v := .int 0) fb6 cf hw 21 rfl 11 rfl q317 rfl rfl rfl rfl dX6_check_7 (fun H locs hw => ?_)
  have hw : WD g A s H locs [bO t2 4 (tF (lad 0) ad2 (d2 0) (d2 9) (d2 5) (d2 6) (d2 7) (d2 1) (d2 8)), bI g (ad2 1) 10 (col d2 0), bI g (ad2 2) 10 (col d2 1), bI g (ad2 3) 10 (col d2 2), bI g (ad2 4) 10 (col d2 3), bI g (ad2 5) 10 (col d2 4), bI g (ad2 6) 3 (rulF d2), bI g (ad2 7) 3 cn2, bO t 4 (tF (lad 0) ad (d 0) (d 9) (d 5) (d 6) (d 7) (d 1) (d 8)), bI g (ad 1) 10 (col d 0), bI g (ad 2) 10 (col d 1), bI g (ad 3) 10 (col d 2), bI g (ad 4) 10 (col d 3), bI g (ad 5) 10 (col d 4), bI g (ad 6) 3 (rulF d), bI g (ad 7) 3 cn, bO (lad 0) 0 ([.ref (lad 1), .ref (lad 2), .ref (lad 3)]), bR g 4 (lad 1) 14 tr, bI g (lad 2) 6 nm, bI g (lad 3) 96 st_, txb, bO o 6 (cF (lad 0) t0 t t2 ch kp tp 0), bI g (ch 10) 60 ws] := hw
  refine lv_iload_n hx hb dX6_check_10 rfl (lv_at hl 2 rfl) ?_
  refine lv_iconst (v := 1) hx hb dX6_check_11 (by decide) ?_
  refine lv_icmp_lt (tgt := 21) hx hb dX6_check_12 (by decide) (fun c12 => ?_) (fun c12 => ?_)
  · refine lv_ldc hx hb hown (hts _ q356) dX6_check_21 ?_
    exact s_iret cf hr hlk (nm, st_, d2, cn2) hw (by unfold R_check; rw [if_neg (fun z => absurd z.1 (Int32.not_le.mpr c12))]) (Nat.le_of_ble_eq_true rfl) (Nat.le_of_ble_eq_true rfl) dX6_check_23 hQ
  · refine lv_iload_n hx hb dX6_check_15 rfl (lv_at hl 2 rfl) ?_
    refine lv_bipush (v := 30) hx hb dX6_check_16 (by decide) ?_
    refine lv_icmp_le (tgt := 24) hx hb dX6_check_18 (by decide) (fun c18 => ?_) (fun c18 => ?_)
    · have hx1 : 1 ≤ x ∧ x ≤ 30 := ⟨Int32.not_lt.mp c12, c18⟩
      refine lv_aload_n hx hb dX6_check_24 rfl (lv_at hl 1 rfl) ?_
      refine s_get (v := .int kp) fb6 cf hw 21 rfl 4 rfl q310 rfl dX6_check_25 ?_
      refine lv_if_ne (tgt := 35) hx hb dX6_check_28 (by decide) (fun c28 => ?_) (fun c28 => ?_)
      · obtain ⟨xx, hxx, hxe⟩ := rng_nat (m := 30) (by omega) (Int32.le_trans (by decide) hx1.1) hx1.2
        subst hxe
        obtain ⟨hk1, hk2, hk3⟩ := nightN_nat hni h9 hx1.1 (Int32.le_trans hx1.2 (by decide))
        obtain ⟨m_, hmE⟩ : ∃ m_, nightN d (nI xx) = m_ := ⟨_, rfl⟩
        have hm30 : m_ ≤ 30 := by rw [← hmE]; exact nightN_le hni h9 hxx
        rw [hmE] at hk1 hk2 hk3
        refine lv_iconst (v := 2) hx hb dX6_check_35 (by decide) ?_
        refine lv_iload_n hx hb dX6_check_36 rfl (lv_at hl 2 rfl) ?_
        refine lv_sipush (v := 9999) hx hb dX6_check_37 (by decide) ?_
        refine lv_aload_n hx hb dX6_check_40 rfl (lv_at hl 1 rfl) ?_
        refine s_get (v := .ref t) fb6 cf hw 21 rfl 2 rfl q308 rfl dX6_check_41 ?_
        refine s_getN (v := .int (d 1)) fb4 cf hw 8 rfl 13 rfl q183 rfl dX6_check_44 ?_
        refine lv_isub hx hb dX6_check_47 ?_
        refine va_mmin hx hb (by rw [hml]; exact hl.1.symm) hown (hts _ q400) (hts _ ks_J9_min_7cf53) (hts _ km_J9_min_7cf53.1) (hts _ km_J9_min_7cf53.2.1) (Nat.le_of_ble_eq_true rfl) (Nat.le_of_ble_eq_true rfl) (Nat.le_of_ble_eq_true rfl) (Nat.le_of_ble_eq_true rfl) dX6_check_48 ?_
        refine lv_topr (y := nI m_) ((min_night hx1.1).trans hk1) ?_
        refine lv_imul hx hb dX6_check_51 ?_
        refine lv_topr (y := nI (2 * m_)) (pk_mul 2 m_) ?_
        refine lv_istore_n (lv' := [(3, .int (nI (2 * m_))), (2, .int (nI wn)), (0, .ref o), (1, .int (nI xx))]) hx hb dX6_check_52 rfl hl (by decide) rfl (fun ls hl => ?_)
        refine lv_aload_n hx hb dX6_check_53 rfl (lv_at hl 2 rfl) ?_
        refine s_get (v := .ref t2) fb6 cf hw 21 rfl 3 rfl q309 rfl dX6_check_54 ?_
        refine lv_aload_n hx hb dX6_check_57 rfl (lv_at hl 2 rfl) ?_
        refine s_get (v := .ref t) fb6 cf hw 21 rfl 2 rfl q308 rfl dX6_check_58 ?_
        refine s_callv (runVN cf (x_become (t := t2) (lad := lad) (ad := ad2) (d := d2) (cn := cn2) (t2 := t) (ad2 := ad) (d2 := d) (cn2 := cn)) hw [0, 1, 2, 3, 4, 5, 6, 7, 8, 9, 10, 11, 12, 13, 14, 15] (by decide) rfl km_X4_become ki_X4_become q541 (run_recv (ci := 4) (T := TX4) (N := 15) hw 0 rfl rfl) rfl rfl hl.1 rfl dX6_check_61) hw [0, 1, 2, 3, 4, 5, 6, 7, 8, 9, 10, 11, 12, 13, 14, 15] (by decide) rfl (fun _ => rfl) (fun u_1 H locs hp_2 hw => ?_)
        have hw : WD g A s H locs [bO t2 4 (tF (lad 0) ad2 (d 0) (d 9) (d 5) (d 6) (d 7) (d 1) (d 8)), bI g (ad2 1) 10 (col d 0), bI g (ad2 2) 10 (col d 1), bI g (ad2 3) 10 (col d 2), bI g (ad2 4) 10 (col d 3), bI g (ad2 5) 10 (col d 4), bI g (ad2 6) 3 (rulF d), bI g (ad2 7) 3 cn, bO t 4 (tF (lad 0) ad (d 0) (d 9) (d 5) (d 6) (d 7) (d 1) (d 8)), bI g (ad 1) 10 (col d 0), bI g (ad 2) 10 (col d 1), bI g (ad 3) 10 (col d 2), bI g (ad 4) 10 (col d 3), bI g (ad 5) 10 (col d 4), bI g (ad 6) 3 (rulF d), bI g (ad 7) 3 cn, bO (lad 0) 0 ([.ref (lad 1), .ref (lad 2), .ref (lad 3)]), bR g 4 (lad 1) 14 tr, bI g (lad 2) 6 nm, bI g (lad 3) 96 st_, txb, bO o 6 (cF (lad 0) t0 t t2 ch kp tp 0), bI g (ch 10) 60 ws] := hw
        refine lv_iconst (v := 0) hx hb dX6_check_64 (by decide) ?_
        refine lv_istore (lv' := [(4, .int 0), (3, .int (nI (2 * m_))), (2, .int (nI wn)), (0, .ref o), (1, .int (nI xx))]) hx hb dX6_check_65 hl (by decide) rfl (fun ls hl => ?_)
        have L67 : ∀ (fu : Nat) (i : Nat) (nm st_ : DD), (i ≤ 2 * m_) → (2 * m_ < i + fu) → (ckL ft d ws wn (2 * m_ - i) i = ckQ ft d ws wn m_) → (i ≤ wn) → ∀ (H : Heap) (locs : List Loc) (ls : Array Slot), WD g A s H locs [bO t2 4 (tF (lad 0) ad2 ((nightsF ft ((i + 1) / 2) d) 0) ((nightsF ft ((i + 1) / 2) d) 9) ((nightsF ft ((i + 1) / 2) d) 5) ((nightsF ft ((i + 1) / 2) d) 6) ((nightsF ft ((i + 1) / 2) d) 7) ((nightsF ft ((i + 1) / 2) d) 1) ((nightsF ft ((i + 1) / 2) d) 8)), bI g (ad2 1) 10 (col (nightsF ft ((i + 1) / 2) d) 0), bI g (ad2 2) 10 (col (nightsF ft ((i + 1) / 2) d) 1), bI g (ad2 3) 10 (col (nightsF ft ((i + 1) / 2) d) 2), bI g (ad2 4) 10 (col (nightsF ft ((i + 1) / 2) d) 3), bI g (ad2 5) 10 (col (nightsF ft ((i + 1) / 2) d) 4), bI g (ad2 6) 3 (rulF (nightsF ft ((i + 1) / 2) d)), bI g (ad2 7) 3 cn, bO t 4 (tF (lad 0) ad (d 0) (d 9) (d 5) (d 6) (d 7) (d 1) (d 8)), bI g (ad 1) 10 (col d 0), bI g (ad 2) 10 (col d 1), bI g (ad 3) 10 (col d 2), bI g (ad 4) 10 (col d 3), bI g (ad 5) 10 (col d 4), bI g (ad 6) 3 (rulF d), bI g (ad 7) 3 cn, bO (lad 0) 0 ([.ref (lad 1), .ref (lad 2), .ref (lad 3)]), bR g 4 (lad 1) 14 tr, bI g (lad 2) 6 nm, bI g (lad 3) 96 st_, txb, bO o 6 (cF (lad 0) t0 t t2 ch kp tp 0), bI g (ch 10) 60 ws] → lv_has ls 6 [(0, .ref o), (1, .int (nI xx)), (2, .int (nI wn)), (3, .int (nI (2 * m_))), (4, .int (nI i))] → W p l e (rmx 6 0 0) s m args below meth c H locs 0 0 Qf (F0 m 67 ls []) := by
          intro fu
          induction fu with
          | zero => intro i nm st_ hi hfu hck hall; exfalso; omega
          | succ fu ih67 =>
            intro i nm st_ hi hfu hck hall H locs ls hw hl
            refine lv_iload hx hb dX6_check_67 (lv_at hl 4 rfl) ?_
            refine lv_iload_n hx hb dX6_check_69 rfl (lv_at hl 3 rfl) ?_
            refine lv_icmp_ge (tgt := 157) hx hb dX6_check_70 (by decide) (fun c70 => ?_) (fun c70 => ?_)
            · have hi2 : i = 2 * m_ := by have := nI_le_of (by omega) c70 (by omega); omega
              refine lv_iload_n hx hb dX6_check_157 rfl (lv_at hl 2 rfl) ?_
              refine lv_iload_n hx hb dX6_check_158 rfl (lv_at hl 3 rfl) ?_
              refine lv_icmp_le (tgt := 168) hx hb dX6_check_159 (by decide) (fun c159 => ?_) (fun c159 => ?_)
              · refine lv_iconst (v := 0) hx hb dX6_check_168 (by decide) ?_
                have hQ2 : ckQ ft d ws wn m_ = 2 * m_ := by rw [← hck, hi2, Nat.sub_self]; rfl
                exact s_iret cf hr hlk (nm, st_, (nightsF ft ((i + 1) / 2) d), cn) hw (by unfold R_check; rw [if_pos hx1, if_neg c28, hmE]; rw [if_pos ⟨hQ2, by rw [hQ2]; have := hall; have h159 := nI_leI (a := wn) (b := 2 * m_) (by omega) (by omega) |>.mp c159; omega⟩]) (Nat.le_of_ble_eq_true rfl) (Nat.le_of_ble_eq_true rfl) dX6_check_169 hQ
              · refine lv_iconst (v := 1) hx hb dX6_check_162 (by decide) ?_
                refine lv_iload_n hx hb dX6_check_163 rfl (lv_at hl 3 rfl) ?_
                refine lv_iadd hx hb dX6_check_164 ?_
                refine lv_goto (tgt := 169) hx hb dX6_check_165 (by decide) ?_
                have hQ2 : ckQ ft d ws wn m_ = 2 * m_ := by rw [← hck, hi2, Nat.sub_self]; rfl
                exact s_iret cf hr hlk (nm, st_, (nightsF ft ((i + 1) / 2) d), cn) hw (by unfold R_check; rw [if_pos hx1, if_neg c28, hmE]; rw [if_neg (fun z => c159 (nI_le (by omega) (by omega))), hQ2]; exact nI_add 1 (2 * m_)) (Nat.le_of_ble_eq_true rfl) (Nat.le_of_ble_eq_true rfl) dX6_check_169 hQ
            · have hlt : i < 2 * m_ := nI_lt_of (by omega) c70 (by omega)
              have hIk : InvH (nightsF ft ((i + 1) / 2) d) := inv_nights hI
              have hd0 : nightsF ft (i / 2 + 1) d 0 = nI n := by rw [nightsF_lo (by omega) (by omega) (by omega) (by omega) (by omega) (by omega)]; exact hn
              refine lv_iload hx hb dX6_check_73 (lv_at hl 4 rfl) ?_
              refine lv_iconst (v := 2) hx hb dX6_check_75 (by decide) ?_
              refine lv_irem hx hb dX6_check_76 (by decide) ?_
              refine lv_topr (y := nI (i % 2)) (rem_nat (b := 2) (by omega) (by omega) (by omega)) ?_
              refine lv_if_ne (tgt := 88) hx hb dX6_check_77 (by decide) (fun c77 => ?_) (fun c77 => ?_)
              · have hpar : ¬ i % 2 = 0 := fun z => c77 (by rw [z]; rfl)
                have hw : WD g A s H locs [bO t2 4 (tF (lad 0) ad2 ((nightsF ft (i / 2 + 1) d) 0) ((nightsF ft (i / 2 + 1) d) 9) ((nightsF ft (i / 2 + 1) d) 5) ((nightsF ft (i / 2 + 1) d) 6) ((nightsF ft (i / 2 + 1) d) 7) ((nightsF ft (i / 2 + 1) d) 1) ((nightsF ft (i / 2 + 1) d) 8)), bI g (ad2 1) 10 (col (nightsF ft (i / 2 + 1) d) 0), bI g (ad2 2) 10 (col (nightsF ft (i / 2 + 1) d) 1), bI g (ad2 3) 10 (col (nightsF ft (i / 2 + 1) d) 2), bI g (ad2 4) 10 (col (nightsF ft (i / 2 + 1) d) 3), bI g (ad2 5) 10 (col (nightsF ft (i / 2 + 1) d) 4), bI g (ad2 6) 3 (rulF (nightsF ft (i / 2 + 1) d)), bI g (ad2 7) 3 cn, bO t 4 (tF (lad 0) ad (d 0) (d 9) (d 5) (d 6) (d 7) (d 1) (d 8)), bI g (ad 1) 10 (col d 0), bI g (ad 2) 10 (col d 1), bI g (ad 3) 10 (col d 2), bI g (ad 4) 10 (col d 3), bI g (ad 5) 10 (col d 4), bI g (ad 6) 3 (rulF d), bI g (ad 7) 3 cn, bO (lad 0) 0 ([.ref (lad 1), .ref (lad 2), .ref (lad 3)]), bR g 4 (lad 1) 14 tr, bI g (lad 2) 6 nm, bI g (lad 3) 96 st_, txb, bO o 6 (cF (lad 0) t0 t t2 ch kp tp 0), bI g (ch 10) 60 ws] := by have q : (i + 1) / 2 = i / 2 + 1 := (by omega); rw [← q]; exact hw
                refine lv_iload hx hb dX6_check_88 (lv_at hl 4 rfl) ?_
                refine lv_iconst (v := 2) hx hb dX6_check_90 (by decide) ?_
                refine lv_irem hx hb dX6_check_91 (by decide) ?_
                refine lv_topr (y := nI (i % 2)) (rem_nat (b := 2) (by omega) (by omega) (by omega)) ?_
                refine lv_if_ne (tgt := 105) hx hb dX6_check_92 (by decide) (fun c92 => ?_) (fun c92 => ?_)
                · refine lv_aload_n hx hb dX6_check_105 rfl (lv_at hl 0 rfl) ?_
                  refine s_get (v := .ref t2) fb6 cf hw 21 rfl 3 rfl q309 rfl dX6_check_106 ?_
                  refine lv_aload_n hx hb dX6_check_109 rfl (lv_at hl 0 rfl) ?_
                  refine s_get (v := .ref t2) fb6 cf hw 21 rfl 3 rfl q309 rfl dX6_check_110 ?_
                  refine s_getN (v := .ref (ad2 4)) fb4 cf hw 0 rfl 4 rfl q165 rfl dX6_check_113 ?_
                  refine s_calli (runVN cf (x_total (t := t2) (lad := lad) (ad := ad2) (d := (nightsF ft (i / 2 + 1) d)) (cn := cn) (n := n) hd0 hn10 (x := ad2 4) (f := col (nightsF ft (i / 2 + 1) d) 3)) hw [0, 4] (by decide) rfl km_X4_total ki_X4_total q523 (run_recv (ci := 4) (T := TX4) (N := 15) hw 0 rfl rfl) rfl rfl hl.1 rfl dX6_check_116) hw [0, 4] (by decide) rfl (fun _ => rfl) (fun r_5 u_3 H locs hp_4 hw => ?_)
                  have hw : WD g A s H locs [bO t2 4 (tF (lad 0) ad2 ((nightsF ft (i / 2 + 1) d) 0) ((nightsF ft (i / 2 + 1) d) 9) ((nightsF ft (i / 2 + 1) d) 5) ((nightsF ft (i / 2 + 1) d) 6) ((nightsF ft (i / 2 + 1) d) 7) ((nightsF ft (i / 2 + 1) d) 1) ((nightsF ft (i / 2 + 1) d) 8)), bI g (ad2 1) 10 (col (nightsF ft (i / 2 + 1) d) 0), bI g (ad2 2) 10 (col (nightsF ft (i / 2 + 1) d) 1), bI g (ad2 3) 10 (col (nightsF ft (i / 2 + 1) d) 2), bI g (ad2 4) 10 (col (nightsF ft (i / 2 + 1) d) 3), bI g (ad2 5) 10 (col (nightsF ft (i / 2 + 1) d) 4), bI g (ad2 6) 3 (rulF (nightsF ft (i / 2 + 1) d)), bI g (ad2 7) 3 cn, bO t 4 (tF (lad 0) ad (d 0) (d 9) (d 5) (d 6) (d 7) (d 1) (d 8)), bI g (ad 1) 10 (col d 0), bI g (ad 2) 10 (col d 1), bI g (ad 3) 10 (col d 2), bI g (ad 4) 10 (col d 3), bI g (ad 5) 10 (col d 4), bI g (ad 6) 3 (rulF d), bI g (ad 7) 3 cn, bO (lad 0) 0 ([.ref (lad 1), .ref (lad 2), .ref (lad 3)]), bR g 4 (lad 1) 14 tr, bI g (lad 2) 6 nm, bI g (lad 3) 96 st_, txb, bO o 6 (cF (lad 0) t0 t t2 ch kp tp 0), bI g (ch 10) 60 ws] := hw
                  subst hp_4
                  refine lv_topr (y := ckN ft d i) (by unfold ckN; rw [if_neg hpar]; unfold sumF; rw [nH_of hd0 hn10]; rfl) ?_
                  refine lv_istore (lv' := [(5, .int (ckN ft d i)), (0, .ref o), (1, .int (nI xx)), (2, .int (nI wn)), (3, .int (nI (2 * m_))), (4, .int (nI i))]) hx hb dX6_check_119 hl (by decide) rfl (fun ls hl => ?_)
                  refine lv_iload hx hb dX6_check_121 (lv_at hl 5 rfl) ?_
                  refine lv_iload_n hx hb dX6_check_123 rfl (lv_at hl 3 rfl) ?_
                  refine lv_icmp_ge (tgt := 146) hx hb dX6_check_124 (by decide) (fun c124 => ?_) (fun c124 => ?_)
                  · have hiw : ¬ i < wn := by have := nI_le_of (by omega) c124 (by omega); omega
                    refine lv_iconst (v := 1) hx hb dX6_check_146 (by decide) ?_
                    refine lv_iload hx hb dX6_check_147 (lv_at hl 5 rfl) ?_
                    refine lv_iadd hx hb dX6_check_149 ?_
                    have hQ2 : ckQ ft d ws wn m_ = i := ck_hit hlt hck (v := ckN ft d i) rfl (Or.inl hiw)
                    exact s_iret cf hr hlk (nm, st_, (nightsF ft (i / 2 + 1) d), cn) hw (by unfold R_check; rw [if_pos hx1, if_neg c28, hmE]; rw [if_neg (by omega), hQ2]; exact nI_add 1 i) (Nat.le_of_ble_eq_true rfl) (Nat.le_of_ble_eq_true rfl) dX6_check_150 hQ
                  · have hiw : i < wn := nI_lt_of (by omega) c124 (by omega)
                    refine lv_iload hx hb dX6_check_127 (lv_at hl 5 rfl) ?_
                    refine lv_bipush (v := 60) hx hb dX6_check_129 (by decide) ?_
                    refine lv_icmp_ge (tgt := 146) hx hb dX6_check_131 (by decide) (fun c131 => ?_) (fun c131 => ?_)
                    · exact absurd (nI_le_of (n := 60) (by omega) c131 (by omega)) (by omega)
                    · refine lv_aload_n hx hb dX6_check_134 rfl (lv_at hl 1 rfl) ?_
                      refine s_get (v := .ref (ch 10)) fb6 cf hw 21 rfl 10 rfl q316 rfl dX6_check_135 ?_
                      refine lv_iload hx hb dX6_check_138 (lv_at hl 5 rfl) ?_
                      refine s_iald (j := i) cf hw 22 rfl (rfl) (by omega) rfl dX6_check_140 ?_
                      refine lv_iload hx hb dX6_check_141 (lv_at hl 0 rfl) ?_
                      refine lv_icmp_eq (tgt := 151) hx hb dX6_check_143 (by decide) (fun c143 => ?_) (fun c143 => ?_)
                      · have hw : WD g A s H locs [bO t2 4 (tF (lad 0) ad2 ((nightsF ft ((i + 1 + 1) / 2) d) 0) ((nightsF ft ((i + 1 + 1) / 2) d) 9) ((nightsF ft ((i + 1 + 1) / 2) d) 5) ((nightsF ft ((i + 1 + 1) / 2) d) 6) ((nightsF ft ((i + 1 + 1) / 2) d) 7) ((nightsF ft ((i + 1 + 1) / 2) d) 1) ((nightsF ft ((i + 1 + 1) / 2) d) 8)), bI g (ad2 1) 10 (col (nightsF ft ((i + 1 + 1) / 2) d) 0), bI g (ad2 2) 10 (col (nightsF ft ((i + 1 + 1) / 2) d) 1), bI g (ad2 3) 10 (col (nightsF ft ((i + 1 + 1) / 2) d) 2), bI g (ad2 4) 10 (col (nightsF ft ((i + 1 + 1) / 2) d) 3), bI g (ad2 5) 10 (col (nightsF ft ((i + 1 + 1) / 2) d) 4), bI g (ad2 6) 3 (rulF (nightsF ft ((i + 1 + 1) / 2) d)), bI g (ad2 7) 3 cn, bO t 4 (tF (lad 0) ad (d 0) (d 9) (d 5) (d 6) (d 7) (d 1) (d 8)), bI g (ad 1) 10 (col d 0), bI g (ad 2) 10 (col d 1), bI g (ad 3) 10 (col d 2), bI g (ad 4) 10 (col d 3), bI g (ad 5) 10 (col d 4), bI g (ad 6) 3 (rulF d), bI g (ad 7) 3 cn, bO (lad 0) 0 ([.ref (lad 1), .ref (lad 2), .ref (lad 3)]), bR g 4 (lad 1) 14 tr, bI g (lad 2) 6 nm, bI g (lad 3) 96 st_, txb, bO o 6 (cF (lad 0) t0 t t2 ch kp tp 0), bI g (ch 10) 60 ws] := by rw [show (i + 1 + 1) / 2 = i / 2 + 1 by omega]; exact hw
                        have hck2 := ck_go hlt hck rfl hiw c143
                        refine lv_iinc (v := nI (i + 1)) (lv' := [(4, .int (nI (i + 1))), (5, .int (ckN ft d i)), (0, .ref o), (1, .int (nI xx)), (2, .int (nI wn)), (3, .int (nI (2 * m_)))]) hx hb dX6_check_151 hl (k := 5) rfl (nI_1 i) (by decide) rfl (fun ls hl => ?_)
                        refine lv_goto (tgt := 67) hx hb dX6_check_154 (by decide) ?_
                        exact ih67 (i + 1) nm st_ (by omega) (by omega) hck2 (by omega) _ _ _ hw (lv_sub hl [2, 3, 4, 5, 0] rfl)
                      · refine lv_iconst (v := 1) hx hb dX6_check_146 (by decide) ?_
                        refine lv_iload hx hb dX6_check_147 (lv_at hl 5 rfl) ?_
                        refine lv_iadd hx hb dX6_check_149 ?_
                        have hQ2 : ckQ ft d ws wn m_ = i := ck_hit hlt hck (v := ckN ft d i) rfl (Or.inr c143)
                        exact s_iret cf hr hlk (nm, st_, (nightsF ft (i / 2 + 1) d), cn) hw (by unfold R_check; rw [if_pos hx1, if_neg c28, hmE]; rw [if_neg (by omega), hQ2]; exact nI_add 1 i) (Nat.le_of_ble_eq_true rfl) (Nat.le_of_ble_eq_true rfl) dX6_check_150 hQ
                · exact absurd ((nI_eq (b := 0) (by omega) (by omega)).mp c92) hpar
              · have hpar : i % 2 = 0 := (nI_eq (b := 0) (by omega) (by omega)).mp c77
                refine lv_aload_n hx hb dX6_check_80 rfl (lv_at hl 0 rfl) ?_
                refine s_get (v := .ref t2) fb6 cf hw 21 rfl 3 rfl q309 rfl dX6_check_81 ?_
                refine lv_iconst (v := 1) hx hb dX6_check_84 (by decide) ?_
                refine s_callv (runVN cf (x_pass (t := t2) (lad := lad) (ad := ad2) (d := (nightsF ft ((i + 1) / 2) d)) (cn := cn) (nm := nm) (st_ := st_) (tr := tr) (txb := txb) (ft := ft) hF hFo hIk (nightsF_1 (ft := ft) hni ((i + 1) / 2)) 1 (by omega)) hw [0, 1, 2, 3, 4, 5, 6, 7, 16, 17, 18, 19, 20] (by decide) rfl km_X4_pass ki_X4_pass q499 (run_recv (ci := 4) (T := TX4) (N := 15) hw 0 rfl rfl) rfl rfl hl.1 rfl dX6_check_85) hw [0, 1, 2, 3, 4, 5, 6, 7, 16, 17, 18, 19, 20] (by decide) rfl (fun _ => rfl) (fun u_6 H locs hp_7 hw => ?_)
                have hw : WD g A s H locs [bO t2 4 (tF (lad 0) ad2 ((nightsF ft 1 (nightsF ft ((i + 1) / 2) d)) 0) ((nightsF ft 1 (nightsF ft ((i + 1) / 2) d)) 9) ((nightsF ft 1 (nightsF ft ((i + 1) / 2) d)) 5) ((nightsF ft 1 (nightsF ft ((i + 1) / 2) d)) 6) ((nightsF ft 1 (nightsF ft ((i + 1) / 2) d)) 7) ((nightsF ft 1 (nightsF ft ((i + 1) / 2) d)) 1) ((nightsF ft 1 (nightsF ft ((i + 1) / 2) d)) 8)), bI g (ad2 1) 10 (col (nightsF ft 1 (nightsF ft ((i + 1) / 2) d)) 0), bI g (ad2 2) 10 (col (nightsF ft 1 (nightsF ft ((i + 1) / 2) d)) 1), bI g (ad2 3) 10 (col (nightsF ft 1 (nightsF ft ((i + 1) / 2) d)) 2), bI g (ad2 4) 10 (col (nightsF ft 1 (nightsF ft ((i + 1) / 2) d)) 3), bI g (ad2 5) 10 (col (nightsF ft 1 (nightsF ft ((i + 1) / 2) d)) 4), bI g (ad2 6) 3 (rulF (nightsF ft 1 (nightsF ft ((i + 1) / 2) d))), bI g (ad2 7) 3 cn, bO t 4 (tF (lad 0) ad (d 0) (d 9) (d 5) (d 6) (d 7) (d 1) (d 8)), bI g (ad 1) 10 (col d 0), bI g (ad 2) 10 (col d 1), bI g (ad 3) 10 (col d 2), bI g (ad 4) 10 (col d 3), bI g (ad 5) 10 (col d 4), bI g (ad 6) 3 (rulF d), bI g (ad 7) 3 cn, bO (lad 0) 0 ([.ref (lad 1), .ref (lad 2), .ref (lad 3)]), bR g 4 (lad 1) 14 tr, bI g (lad 2) 6 u_6.1, bI g (lad 3) 96 u_6.2, txb, bO o 6 (cF (lad 0) t0 t t2 ch kp tp 0), bI g (ch 10) 60 ws] := hw
                have hw : WD g A s H locs [bO t2 4 (tF (lad 0) ad2 ((nightsF ft (i / 2 + 1) d) 0) ((nightsF ft (i / 2 + 1) d) 9) ((nightsF ft (i / 2 + 1) d) 5) ((nightsF ft (i / 2 + 1) d) 6) ((nightsF ft (i / 2 + 1) d) 7) ((nightsF ft (i / 2 + 1) d) 1) ((nightsF ft (i / 2 + 1) d) 8)), bI g (ad2 1) 10 (col (nightsF ft (i / 2 + 1) d) 0), bI g (ad2 2) 10 (col (nightsF ft (i / 2 + 1) d) 1), bI g (ad2 3) 10 (col (nightsF ft (i / 2 + 1) d) 2), bI g (ad2 4) 10 (col (nightsF ft (i / 2 + 1) d) 3), bI g (ad2 5) 10 (col (nightsF ft (i / 2 + 1) d) 4), bI g (ad2 6) 3 (rulF (nightsF ft (i / 2 + 1) d)), bI g (ad2 7) 3 cn, bO t 4 (tF (lad 0) ad (d 0) (d 9) (d 5) (d 6) (d 7) (d 1) (d 8)), bI g (ad 1) 10 (col d 0), bI g (ad 2) 10 (col d 1), bI g (ad 3) 10 (col d 2), bI g (ad 4) 10 (col d 3), bI g (ad 5) 10 (col d 4), bI g (ad 6) 3 (rulF d), bI g (ad 7) 3 cn, bO (lad 0) 0 ([.ref (lad 1), .ref (lad 2), .ref (lad 3)]), bR g 4 (lad 1) 14 tr, bI g (lad 2) 6 u_6.1, bI g (lad 3) 96 u_6.2, txb, bO o 6 (cF (lad 0) t0 t t2 ch kp tp 0), bI g (ch 10) 60 ws] := by have q : nightsF ft (i / 2 + 1) d = nightsF ft 1 (nightsF ft ((i + 1) / 2) d) := (by rw [nights_1s, show (i + 1) / 2 = i / 2 by omega]); rw [q]; exact hw
                refine lv_iload hx hb dX6_check_88 (lv_at hl 4 rfl) ?_
                refine lv_iconst (v := 2) hx hb dX6_check_90 (by decide) ?_
                refine lv_irem hx hb dX6_check_91 (by decide) ?_
                refine lv_topr (y := nI (i % 2)) (rem_nat (b := 2) (by omega) (by omega) (by omega)) ?_
                refine lv_if_ne (tgt := 105) hx hb dX6_check_92 (by decide) (fun c92 => ?_) (fun c92 => ?_)
                · exact absurd (by rw [hpar]; rfl) c92
                · refine lv_aload_n hx hb dX6_check_95 rfl (lv_at hl 0 rfl) ?_
                  refine s_get (v := .ref t2) fb6 cf hw 21 rfl 3 rfl q309 rfl dX6_check_96 ?_
                  refine s_getN (v := .int ((nightsF ft (i / 2 + 1) d) 6)) fb4 cf hw 0 rfl 11 rfl q180 rfl dX6_check_99 ?_
                  refine lv_goto (tgt := 119) hx hb dX6_check_102 (by decide) ?_
                  refine lv_topr (y := ckN ft d i) (by unfold ckN; rw [if_pos hpar]) ?_
                  refine lv_istore (lv' := [(5, .int (ckN ft d i)), (0, .ref o), (1, .int (nI xx)), (2, .int (nI wn)), (3, .int (nI (2 * m_))), (4, .int (nI i))]) hx hb dX6_check_119 hl (by decide) rfl (fun ls hl => ?_)
                  refine lv_iload hx hb dX6_check_121 (lv_at hl 5 rfl) ?_
                  refine lv_iload_n hx hb dX6_check_123 rfl (lv_at hl 3 rfl) ?_
                  refine lv_icmp_ge (tgt := 146) hx hb dX6_check_124 (by decide) (fun c124 => ?_) (fun c124 => ?_)
                  · have hiw : ¬ i < wn := by have := nI_le_of (by omega) c124 (by omega); omega
                    refine lv_iconst (v := 1) hx hb dX6_check_146 (by decide) ?_
                    refine lv_iload hx hb dX6_check_147 (lv_at hl 5 rfl) ?_
                    refine lv_iadd hx hb dX6_check_149 ?_
                    have hQ2 : ckQ ft d ws wn m_ = i := ck_hit hlt hck (v := ckN ft d i) rfl (Or.inl hiw)
                    exact s_iret cf hr hlk (u_6.1, u_6.2, (nightsF ft (i / 2 + 1) d), cn) hw (by unfold R_check; rw [if_pos hx1, if_neg c28, hmE]; rw [if_neg (by omega), hQ2]; exact nI_add 1 i) (Nat.le_of_ble_eq_true rfl) (Nat.le_of_ble_eq_true rfl) dX6_check_150 hQ
                  · have hiw : i < wn := nI_lt_of (by omega) c124 (by omega)
                    refine lv_iload hx hb dX6_check_127 (lv_at hl 5 rfl) ?_
                    refine lv_bipush (v := 60) hx hb dX6_check_129 (by decide) ?_
                    refine lv_icmp_ge (tgt := 146) hx hb dX6_check_131 (by decide) (fun c131 => ?_) (fun c131 => ?_)
                    · exact absurd (nI_le_of (n := 60) (by omega) c131 (by omega)) (by omega)
                    · refine lv_aload_n hx hb dX6_check_134 rfl (lv_at hl 1 rfl) ?_
                      refine s_get (v := .ref (ch 10)) fb6 cf hw 21 rfl 10 rfl q316 rfl dX6_check_135 ?_
                      refine lv_iload hx hb dX6_check_138 (lv_at hl 5 rfl) ?_
                      refine s_iald (j := i) cf hw 22 rfl (rfl) (by omega) rfl dX6_check_140 ?_
                      refine lv_iload hx hb dX6_check_141 (lv_at hl 0 rfl) ?_
                      refine lv_icmp_eq (tgt := 151) hx hb dX6_check_143 (by decide) (fun c143 => ?_) (fun c143 => ?_)
                      · have hw : WD g A s H locs [bO t2 4 (tF (lad 0) ad2 ((nightsF ft ((i + 1 + 1) / 2) d) 0) ((nightsF ft ((i + 1 + 1) / 2) d) 9) ((nightsF ft ((i + 1 + 1) / 2) d) 5) ((nightsF ft ((i + 1 + 1) / 2) d) 6) ((nightsF ft ((i + 1 + 1) / 2) d) 7) ((nightsF ft ((i + 1 + 1) / 2) d) 1) ((nightsF ft ((i + 1 + 1) / 2) d) 8)), bI g (ad2 1) 10 (col (nightsF ft ((i + 1 + 1) / 2) d) 0), bI g (ad2 2) 10 (col (nightsF ft ((i + 1 + 1) / 2) d) 1), bI g (ad2 3) 10 (col (nightsF ft ((i + 1 + 1) / 2) d) 2), bI g (ad2 4) 10 (col (nightsF ft ((i + 1 + 1) / 2) d) 3), bI g (ad2 5) 10 (col (nightsF ft ((i + 1 + 1) / 2) d) 4), bI g (ad2 6) 3 (rulF (nightsF ft ((i + 1 + 1) / 2) d)), bI g (ad2 7) 3 cn, bO t 4 (tF (lad 0) ad (d 0) (d 9) (d 5) (d 6) (d 7) (d 1) (d 8)), bI g (ad 1) 10 (col d 0), bI g (ad 2) 10 (col d 1), bI g (ad 3) 10 (col d 2), bI g (ad 4) 10 (col d 3), bI g (ad 5) 10 (col d 4), bI g (ad 6) 3 (rulF d), bI g (ad 7) 3 cn, bO (lad 0) 0 ([.ref (lad 1), .ref (lad 2), .ref (lad 3)]), bR g 4 (lad 1) 14 tr, bI g (lad 2) 6 u_6.1, bI g (lad 3) 96 u_6.2, txb, bO o 6 (cF (lad 0) t0 t t2 ch kp tp 0), bI g (ch 10) 60 ws] := by rw [show (i + 1 + 1) / 2 = i / 2 + 1 by omega]; exact hw
                        have hck2 := ck_go hlt hck rfl hiw c143
                        refine lv_iinc (v := nI (i + 1)) (lv' := [(4, .int (nI (i + 1))), (5, .int (ckN ft d i)), (0, .ref o), (1, .int (nI xx)), (2, .int (nI wn)), (3, .int (nI (2 * m_)))]) hx hb dX6_check_151 hl (k := 5) rfl (nI_1 i) (by decide) rfl (fun ls hl => ?_)
                        refine lv_goto (tgt := 67) hx hb dX6_check_154 (by decide) ?_
                        exact ih67 (i + 1) u_6.1 u_6.2 (by omega) (by omega) hck2 (by omega) _ _ _ hw (lv_sub hl [2, 3, 4, 5, 0] rfl)
                      · refine lv_iconst (v := 1) hx hb dX6_check_146 (by decide) ?_
                        refine lv_iload hx hb dX6_check_147 (lv_at hl 5 rfl) ?_
                        refine lv_iadd hx hb dX6_check_149 ?_
                        have hQ2 : ckQ ft d ws wn m_ = i := ck_hit hlt hck (v := ckN ft d i) rfl (Or.inr c143)
                        exact s_iret cf hr hlk (u_6.1, u_6.2, (nightsF ft (i / 2 + 1) d), cn) hw (by unfold R_check; rw [if_pos hx1, if_neg c28, hmE]; rw [if_neg (by omega), hQ2]; exact nI_add 1 i) (Nat.le_of_ble_eq_true rfl) (Nat.le_of_ble_eq_true rfl) dX6_check_150 hQ
        exact L67 (2 * m_ + 1) 0 nm st_ (by omega) (by omega) rfl (by omega) _ _ _ hw (lv_sub hl [3, 4, 2, 1, 0] rfl)
      · refine lv_ldcw hx hb hown (hts _ q894) dX6_check_31 ?_
        exact s_iret cf hr hlk (nm, st_, d2, cn2) hw (by unfold R_check; rw [if_pos hx1, if_pos c28]) (Nat.le_of_ble_eq_true rfl) (Nat.le_of_ble_eq_true rfl) dX6_check_34 hQ
    · refine lv_ldc hx hb hown (hts _ q356) dX6_check_21 ?_
      exact s_iret cf hr hlk (nm, st_, d2, cn2) hw (by unfold R_check; rw [if_neg (fun z => c18 z.2)]) (Nat.le_of_ble_eq_true rfl) (Nat.le_of_ble_eq_true rfl) dX6_check_23 hQ
