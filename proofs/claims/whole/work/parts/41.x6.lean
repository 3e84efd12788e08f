set_option maxRecDepth 100000 in
set_option maxHeartbeats 4000000 in
theorem x_feeNow {l : Launch} {g : GG} {t : Nat} {lad ad : Nat → Nat} {d cn : DD} {nm st_ : DD} {tr : Nat → Option Nat} {txb : va_W} {fx : TXC} (hF : FitAt g tr txb (cn 1) fx) (hFo : okN2 10004 10005 fx) : Ct l g yX4_feeNow cX4_feeNow 2 (Option.some Jvm.ClassFile.FieldType.int) 2 0 0 [.ref t] [bO t 4 (tF (lad 0) ad (d 0) (d 9) (d 5) (d 6) (d 7) (d 1) (d 8)), bI g (ad 7) 3 cn, bO (lad 0) 0 ([.ref (lad 1), .ref (lad 2), .ref (lad 3)]), bR g 4 (lad 1) 14 tr, bI g (lad 2) 6 nm, bI g (lad 3) 96 st_, txb] (QI g (fun r (_ : DD × DD) => r = feeX fx d) (fun u => [bO t 4 (tF (lad 0) ad (d 0) (d 9) (d 5) (d 6) (d 7) (d 1) (d 8)), bI g (ad 7) 3 cn, bO (lad 0) 0 ([.ref (lad 1), .ref (lad 2), .ref (lad 3)]), bR g 4 (lad 1) 14 tr, bI g (lad 2) 6 u.1, bI g (lad 3) 96 u.2, txb])) := by
  refine Ct.of (by decide) rfl ?_
  intro p e s m args below meth c A H locs ls Qf cf hr hlk hnm hQ hw hl
  have hx := cf.1
  have hb := cf.2.1
  have hml := cf.2.2.1
  have hown := cf.2.2.2.1
  have hts := cf.2.2.2.2
  have hw : WD g A s H locs [bO t 4 (tF (lad 0) ad (d 0) (d 9) (d 5) (d 6) (d 7) (d 1) (d 8)), bI g (ad 7) 3 cn, bO (lad 0) 0 ([.ref (lad 1), .ref (lad 2), .ref (lad 3)]), bR g 4 (lad 1) 14 tr, bI g (lad 2) 6 nm, bI g (lad 3) 96 st_, txb] := hw
  have hl : lv_has ls 2 [(0, .ref t)] := hl
  refine lv_aload_n hx hb dX4_feeNow_0 rfl (lv_at hl 0 rfl) ?_
  refine s_get (v := .ref (lad 0)) fb4 cf hw 0 rfl 0 rfl q154 rfl dX4_feeNow_1 ?_
  refine lv_aload_n hx hb dX4_feeNow_4 rfl (lv_at hl 0 rfl) ?_
  refine s_get (v := .ref (ad 7)) fb4 cf hw 0 rfl 7 rfl q171 rfl dX4_feeNow_5 ?_
  refine lv_iconst (v := 1) hx hb dX4_feeNow_8 (by decide) ?_
  refine s_iald (j := 1) cf hw 1 rfl (rfl) (by decide) rfl dX4_feeNow_9 ?_
  refine s_callq (runVN cf (x_at (lad := lad) (tr := tr) (cn 1)) hw [2, 3] (by decide) rfl km_X0_at ki_X0_at q379 (run_recv (ci := 0) (T := TX0) (N := 3) hw 2 rfl rfl) rfl rfl hl.1 rfl dX4_feeNow_10) hw [2, 3] (by decide) rfl (fun _ => rfl) (fun r_3 u_1 H locs hp_2 hw => ?_)
  have hw : WD g A s H locs [bO t 4 (tF (lad 0) ad (d 0) (d 9) (d 5) (d 6) (d 7) (d 1) (d 8)), bI g (ad 7) 3 cn, bO (lad 0) 0 ([.ref (lad 1), .ref (lad 2), .ref (lad 3)]), bR g 4 (lad 1) 14 tr, bI g (lad 2) 6 nm, bI g (lad 3) 96 st_, txb] := hw
  subst hp_2
  rcases fx with _ | ⟨len, tc⟩
  · have hat : atF tr (cn 1) = none := if_neg (fun z => absurd hF (Int32.not_lt.mpr z.1))
    refine lv_topv (y := .null) (by rw [hat]; rfl) ?_
    refine lv_astore_nN (lv' := [(1, .null), (0, .ref t)]) hx hb dX4_feeNow_13 rfl hl (by decide) rfl (fun ls hl => ?_)
    refine lv_aload_nN hx hb dX4_feeNow_14 rfl (lv_at hl 0 rfl) ?_
    refine lv_ifnonnullN hx hb dX4_feeNow_15 ?_
    refine lv_aload_n hx hb dX4_feeNow_18 rfl (lv_at hl 1 rfl) ?_
    refine s_get (v := .int (d 6)) fb4 cf hw 0 rfl 11 rfl q179 rfl dX4_feeNow_19 ?_
    exact s_iret cf hr hlk (nm, st_) hw rfl (Nat.le_of_ble_eq_true rfl) (Nat.le_of_ble_eq_true rfl) dX4_feeNow_22 hQ
  · obtain ⟨jx, xa, ca, ky, pc_, ot, hcj, hj14, htr, hlen, hperm⟩ := hF
    have hat : atF tr (cn 1) = some xa := by unfold atF; rw [hcj, if_pos ⟨nI_pos' (by omega), nI_le (b := 13) (by omega) (by omega)⟩, nI_clamp (by omega)]; exact htr
    refine lv_topv (y := .ref xa) (by rw [hat]; rfl) ?_
    have hlb : Nat.ble len 1073741824 = true := Nat.ble_eq_true_of_le (by have h96 : len ≤ 96 := hlen; omega)
    have hw : WD g A s H locs [bO t 4 (tF (lad 0) ad (d 0) (d 9) (d 5) (d 6) (d 7) (d 1) (d 8)), bI g (ad 7) 3 cn, bO (lad 0) 0 ([.ref (lad 1), .ref (lad 2), .ref (lad 3)]), bR g 4 (lad 1) 14 tr, bI g (lad 2) 6 nm, bI g (lad 3) 96 st_, bO xa 5 ([.int ky, .int pc_, .ref ca]), bI g ca len tc, ot] := WD.opn (pre := [bO t 4 (tF (lad 0) ad (d 0) (d 9) (d 5) (d 6) (d 7) (d 1) (d 8)), bI g (ad 7) 3 cn, bO (lad 0) 0 ([.ref (lad 1), .ref (lad 2), .ref (lad 3)]), bR g 4 (lad 1) 14 tr, bI g (lad 2) 6 nm, bI g (lad 3) 96 st_]) hw hperm
    obtain ⟨hok, hsg, hnmn⟩ := hFo (len, tc) rfl
    refine lv_astore_n (lv' := [(1, .ref xa), (0, .ref t)]) hx hb dX4_feeNow_13 rfl hl (by decide) rfl (fun ls hl => ?_)
    refine lv_aload_n hx hb dX4_feeNow_14 rfl (lv_at hl 0 rfl) ?_
    refine lv_ifnonnull (tgt := 23) hx hb dX4_feeNow_15 (by decide) ?_
    refine lv_aload_n hx hb dX4_feeNow_23 rfl (lv_at hl 1 rfl) ?_
    refine s_get (v := .ref (lad 0)) fb4 cf hw 0 rfl 0 rfl q154 rfl dX4_feeNow_24 ?_
    refine s_getN (v := .ref (lad 2)) fb0 cf hw 2 rfl 1 rfl q126 rfl dX4_feeNow_27 ?_
    refine lv_iconst (v := 4) hx hb dX4_feeNow_30 (by decide) ?_
    refine lv_aload_n hx hb dX4_feeNow_31 rfl (lv_at hl 1 rfl) ?_
    refine s_get (v := .int (d 6)) fb4 cf hw 0 rfl 11 rfl q179 rfl dX4_feeNow_32 ?_
    refine s_iast (j := 4) cf hw 4 rfl (rfl) (by decide) rfl dX4_feeNow_35 (fun H locs hw => ?_)
    have hw : WD g A s H locs [bO t 4 (tF (lad 0) ad (d 0) (d 9) (d 5) (d 6) (d 7) (d 1) (d 8)), bI g (ad 7) 3 cn, bO (lad 0) 0 ([.ref (lad 1), .ref (lad 2), .ref (lad 3)]), bR g 4 (lad 1) 14 tr, bI g (lad 2) 6 (upd nm 4 (d 6)), bI g (lad 3) 96 st_, bO xa 5 ([.int ky, .int pc_, .ref ca]), bI g ca len tc, ot] := hw
    refine lv_aload_n hx hb dX4_feeNow_36 rfl (lv_at hl 1 rfl) ?_
    refine s_get (v := .ref (lad 0)) fb4 cf hw 0 rfl 0 rfl q154 rfl dX4_feeNow_37 ?_
    refine s_getN (v := .ref (lad 2)) fb0 cf hw 2 rfl 1 rfl q126 rfl dX4_feeNow_40 ?_
    refine lv_iconst (v := 5) hx hb dX4_feeNow_43 (by decide) ?_
    refine lv_aload_n hx hb dX4_feeNow_44 rfl (lv_at hl 1 rfl) ?_
    refine s_get (v := .int (d 7)) fb4 cf hw 0 rfl 12 rfl q181 rfl dX4_feeNow_45 ?_
    refine s_iast (j := 5) cf hw 4 rfl (rfl) (by decide) rfl dX4_feeNow_48 (fun H locs hw => ?_)
    have hw : WD g A s H locs [bO t 4 (tF (lad 0) ad (d 0) (d 9) (d 5) (d 6) (d 7) (d 1) (d 8)), bI g (ad 7) 3 cn, bO (lad 0) 0 ([.ref (lad 1), .ref (lad 2), .ref (lad 3)]), bR g 4 (lad 1) 14 tr, bI g (lad 2) 6 (upd (upd nm 4 (d 6)) 5 (d 7)), bI g (lad 3) 96 st_, bO xa 5 ([.int ky, .int pc_, .ref ca]), bI g ca len tc, ot] := hw
    refine lv_aload_n hx hb dX4_feeNow_49 rfl (lv_at hl 0 rfl) ?_
    refine lv_aload_n hx hb dX4_feeNow_50 rfl (lv_at hl 1 rfl) ?_
    refine s_get (v := .ref (lad 0)) fb4 cf hw 0 rfl 0 rfl q154 rfl dX4_feeNow_51 ?_
    refine s_getN (v := .ref (lad 2)) fb0 cf hw 2 rfl 1 rfl q126 rfl dX4_feeNow_54 ?_
    refine lv_aload_n hx hb dX4_feeNow_57 rfl (lv_at hl 1 rfl) ?_
    refine s_get (v := .ref (lad 0)) fb4 cf hw 0 rfl 0 rfl q154 rfl dX4_feeNow_58 ?_
    refine s_getN (v := .ref (lad 3)) fb0 cf hw 2 rfl 2 rfl q128 rfl dX4_feeNow_61 ?_
    refine s_calli (runVN cf (x_value (xa := xa) (ca := ca) (na := lad 2) (sa := lad 3) (ky := ky) (pc_ := pc_) (len := len) (tc := tc) (nm := upd (upd nm 4 (d 6)) 5 (d 7)) (st_ := st_) hok hsg) hw [6, 7, 4, 5] (by decide) rfl km_X5_value ki_X5_value q386 (run_recv (ci := 5) (T := TX5) (N := 3) hw 6 rfl rfl) rfl rfl hl.1 rfl dX4_feeNow_64) hw [6, 7, 4, 5] (by decide) rfl (fun _ => rfl) (fun r_6 u_4 H locs hp_5 hw => ?_)
    have hw : WD g A s H locs [bO t 4 (tF (lad 0) ad (d 0) (d 9) (d 5) (d 6) (d 7) (d 1) (d 8)), bI g (ad 7) 3 cn, bO (lad 0) 0 ([.ref (lad 1), .ref (lad 2), .ref (lad 3)]), bR g 4 (lad 1) 14 tr, bI g (lad 2) 6 (upd (upd nm 4 (d 6)) 5 (d 7)), bI g (lad 3) 96 u_4, bO xa 5 ([.int ky, .int pc_, .ref ca]), bI g ca len tc, ot] := hw
    subst hp_5
    have hw : WD g A s H locs [bO t 4 (tF (lad 0) ad (d 0) (d 9) (d 5) (d 6) (d 7) (d 1) (d 8)), bI g (ad 7) 3 cn, bO (lad 0) 0 ([.ref (lad 1), .ref (lad 2), .ref (lad 3)]), bR g 4 (lad 1) 14 tr, bI g (lad 2) 6 (upd (upd nm 4 (d 6)) 5 (d 7)), bI g (lad 3) 96 u_4, txb] := WD.cls (pre := [bO t 4 (tF (lad 0) ad (d 0) (d 9) (d 5) (d 6) (d 7) (d 1) (d 8)), bI g (ad 7) 3 cn, bO (lad 0) 0 ([.ref (lad 1), .ref (lad 2), .ref (lad 3)]), bR g 4 (lad 1) 14 tr, bI g (lad 2) 6 (upd (upd nm 4 (d 6)) 5 (d 7)), bI g (lad 3) 96 u_4]) hw hperm
    exact s_iret cf hr hlk (upd (upd nm 4 (d 6)) 5 (d 7), u_4) hw (eval_fee hnmn) (Nat.le_of_ble_eq_true rfl) (Nat.le_of_ble_eq_true rfl) dX4_feeNow_67 hQ
set_option maxRecDepth 100000 in
set_option maxHeartbeats 4000000 in
theorem x_fineOf {l : Launch} {g : GG} {t : Nat} {lad ad : Nat → Nat} {d cn : DD} {nm st_ : DD} {tr : Nat → Option Nat} {txb : va_W} {fx : TXC} (hF : FitAt g tr txb (cn 2) fx) (hFo : okN2 10000 10002 fx) (i : Nat) (hi : i < 10) : Ct l g yX4_fineOf cX4_fineOf 3 (Option.some Jvm.ClassFile.FieldType.int) 2 0 0 [.ref t, .int (nI i)] [bO t 4 (tF (lad 0) ad (d 0) (d 9) (d 5) (d 6) (d 7) (d 1) (d 8)), bI g (ad 2) 10 (col d 1), bI g (ad 4) 10 (col d 3), bI g (ad 7) 3 cn, bO (lad 0) 0 ([.ref (lad 1), .ref (lad 2), .ref (lad 3)]), bR g 4 (lad 1) 14 tr, bI g (lad 2) 6 nm, bI g (lad 3) 96 st_, txb] (QI g (fun r (_ : DD × DD) => r = fineX fx d i) (fun u => [bO t 4 (tF (lad 0) ad (d 0) (d 9) (d 5) (d 6) (d 7) (d 1) (d 8)), bI g (ad 2) 10 (col d 1), bI g (ad 4) 10 (col d 3), bI g (ad 7) 3 cn, bO (lad 0) 0 ([.ref (lad 1), .ref (lad 2), .ref (lad 3)]), bR g 4 (lad 1) 14 tr, bI g (lad 2) 6 u.1, bI g (lad 3) 96 u.2, txb])) := by
  refine Ct.of (by decide) rfl ?_
  intro p e s m args below meth c A H locs ls Qf cf hr hlk hnm hQ hw hl
  have hx := cf.1
  have hb := cf.2.1
  have hml := cf.2.2.1
  have hown := cf.2.2.2.1
  have hts := cf.2.2.2.2
  have hw : WD g A s H locs [bO t 4 (tF (lad 0) ad (d 0) (d 9) (d 5) (d 6) (d 7) (d 1) (d 8)), bI g (ad 2) 10 (col d 1), bI g (ad 4) 10 (col d 3), bI g (ad 7) 3 cn, bO (lad 0) 0 ([.ref (lad 1), .ref (lad 2), .ref (lad 3)]), bR g 4 (lad 1) 14 tr, bI g (lad 2) 6 nm, bI g (lad 3) 96 st_, txb] := hw
  have hl : lv_has ls 3 [(0, .ref t), (1, .int (nI i))] := hl
  refine lv_aload_n hx hb dX4_fineOf_0 rfl (lv_at hl 0 rfl) ?_
  refine s_get (v := .ref (lad 0)) fb4 cf hw 0 rfl 0 rfl q154 rfl dX4_fineOf_1 ?_
  refine lv_aload_n hx hb dX4_fineOf_4 rfl (lv_at hl 0 rfl) ?_
  refine s_get (v := .ref (ad 7)) fb4 cf hw 0 rfl 7 rfl q171 rfl dX4_fineOf_5 ?_
  refine lv_iconst (v := 2) hx hb dX4_fineOf_8 (by decide) ?_
  refine s_iald (j := 2) cf hw 3 rfl (rfl) (by decide) rfl dX4_fineOf_9 ?_
  refine s_callq (runVN cf (x_at (lad := lad) (tr := tr) (cn 2)) hw [4, 5] (by decide) rfl km_X0_at ki_X0_at q379 (run_recv (ci := 0) (T := TX0) (N := 3) hw 4 rfl rfl) rfl rfl hl.1 rfl dX4_fineOf_10) hw [4, 5] (by decide) rfl (fun _ => rfl) (fun r_3 u_1 H locs hp_2 hw => ?_)
  have hw : WD g A s H locs [bO t 4 (tF (lad 0) ad (d 0) (d 9) (d 5) (d 6) (d 7) (d 1) (d 8)), bI g (ad 2) 10 (col d 1), bI g (ad 4) 10 (col d 3), bI g (ad 7) 3 cn, bO (lad 0) 0 ([.ref (lad 1), .ref (lad 2), .ref (lad 3)]), bR g 4 (lad 1) 14 tr, bI g (lad 2) 6 nm, bI g (lad 3) 96 st_, txb] := hw
  subst hp_2
  rcases fx with _ | ⟨len, tc⟩
  · have hat : atF tr (cn 2) = none := if_neg (fun z => absurd hF (Int32.not_lt.mpr z.1))
    refine lv_topv (y := .null) (by rw [hat]; rfl) ?_
    refine lv_astore_nN (lv' := [(2, .null), (0, .ref t), (1, .int (nI i))]) hx hb dX4_fineOf_13 rfl hl (by decide) rfl (fun ls hl => ?_)
    refine lv_aload_nN hx hb dX4_fineOf_14 rfl (lv_at hl 0 rfl) ?_
    refine lv_ifnonnullN hx hb dX4_fineOf_15 ?_
    refine lv_aload_n hx hb dX4_fineOf_18 rfl (lv_at hl 1 rfl) ?_
    refine s_get (v := .ref (ad 4)) fb4 cf hw 0 rfl 4 rfl q163 rfl dX4_fineOf_19 ?_
    refine lv_iload_n hx hb dX4_fineOf_22 rfl (lv_at hl 2 rfl) ?_
    refine s_iald (j := i) cf hw 2 rfl (rfl) (by omega) rfl dX4_fineOf_23 ?_
    refine lv_topr (y := d (10 + 5 * i + 3)) (rfl) ?_
    exact s_iret cf hr hlk (nm, st_) hw rfl (Nat.le_of_ble_eq_true rfl) (Nat.le_of_ble_eq_true rfl) dX4_fineOf_24 hQ
  · obtain ⟨jx, xa, ca, ky, pc_, ot, hcj, hj14, htr, hlen, hperm⟩ := hF
    have hat : atF tr (cn 2) = some xa := by unfold atF; rw [hcj, if_pos ⟨nI_pos' (by omega), nI_le (b := 13) (by omega) (by omega)⟩, nI_clamp (by omega)]; exact htr
    refine lv_topv (y := .ref xa) (by rw [hat]; rfl) ?_
    have hlb : Nat.ble len 1073741824 = true := Nat.ble_eq_true_of_le (by have h96 : len ≤ 96 := hlen; omega)
    have hw : WD g A s H locs [bO t 4 (tF (lad 0) ad (d 0) (d 9) (d 5) (d 6) (d 7) (d 1) (d 8)), bI g (ad 2) 10 (col d 1), bI g (ad 4) 10 (col d 3), bI g (ad 7) 3 cn, bO (lad 0) 0 ([.ref (lad 1), .ref (lad 2), .ref (lad 3)]), bR g 4 (lad 1) 14 tr, bI g (lad 2) 6 nm, bI g (lad 3) 96 st_, bO xa 5 ([.int ky, .int pc_, .ref ca]), bI g ca len tc, ot] := WD.opn (pre := [bO t 4 (tF (lad 0) ad (d 0) (d 9) (d 5) (d 6) (d 7) (d 1) (d 8)), bI g (ad 2) 10 (col d 1), bI g (ad 4) 10 (col d 3), bI g (ad 7) 3 cn, bO (lad 0) 0 ([.ref (lad 1), .ref (lad 2), .ref (lad 3)]), bR g 4 (lad 1) 14 tr, bI g (lad 2) 6 nm, bI g (lad 3) 96 st_]) hw hperm
    obtain ⟨hok, hsg, hnmn⟩ := hFo (len, tc) rfl
    refine lv_astore_n (lv' := [(2, .ref xa), (0, .ref t), (1, .int (nI i))]) hx hb dX4_fineOf_13 rfl hl (by decide) rfl (fun ls hl => ?_)
    refine lv_aload_n hx hb dX4_fineOf_14 rfl (lv_at hl 0 rfl) ?_
    refine lv_ifnonnull (tgt := 25) hx hb dX4_fineOf_15 (by decide) ?_
    refine lv_aload_n hx hb dX4_fineOf_25 rfl (lv_at hl 1 rfl) ?_
    refine s_get (v := .ref (lad 0)) fb4 cf hw 0 rfl 0 rfl q154 rfl dX4_fineOf_26 ?_
    refine s_getN (v := .ref (lad 2)) fb0 cf hw 4 rfl 1 rfl q126 rfl dX4_fineOf_29 ?_
    refine lv_iconst (v := 0) hx hb dX4_fineOf_32 (by decide) ?_
    refine lv_aload_n hx hb dX4_fineOf_33 rfl (lv_at hl 1 rfl) ?_
    refine s_get (v := .ref (ad 2)) fb4 cf hw 0 rfl 2 rfl q158 rfl dX4_fineOf_34 ?_
    refine lv_iload_n hx hb dX4_fineOf_37 rfl (lv_at hl 2 rfl) ?_
    refine s_iald (j := i) cf hw 1 rfl (rfl) (by omega) rfl dX4_fineOf_38 ?_
    refine lv_topr (y := d (10 + 5 * i + 1)) (rfl) ?_
    refine s_iast (j := 0) cf hw 6 rfl (rfl) (by decide) rfl dX4_fineOf_39 (fun H locs hw => ?_)
    have hw : WD g A s H locs [bO t 4 (tF (lad 0) ad (d 0) (d 9) (d 5) (d 6) (d 7) (d 1) (d 8)), bI g (ad 2) 10 (col d 1), bI g (ad 4) 10 (col d 3), bI g (ad 7) 3 cn, bO (lad 0) 0 ([.ref (lad 1), .ref (lad 2), .ref (lad 3)]), bR g 4 (lad 1) 14 tr, bI g (lad 2) 6 (upd nm 0 (d (10 + 5 * i + 1))), bI g (lad 3) 96 st_, bO xa 5 ([.int ky, .int pc_, .ref ca]), bI g ca len tc, ot] := hw
    refine lv_aload_n hx hb dX4_fineOf_40 rfl (lv_at hl 1 rfl) ?_
    refine s_get (v := .ref (lad 0)) fb4 cf hw 0 rfl 0 rfl q154 rfl dX4_fineOf_41 ?_
    refine s_getN (v := .ref (lad 2)) fb0 cf hw 4 rfl 1 rfl q126 rfl dX4_fineOf_44 ?_
    refine lv_iconst (v := 2) hx hb dX4_fineOf_47 (by decide) ?_
    refine lv_aload_n hx hb dX4_fineOf_48 rfl (lv_at hl 1 rfl) ?_
    refine s_get (v := .ref (ad 4)) fb4 cf hw 0 rfl 4 rfl q163 rfl dX4_fineOf_49 ?_
    refine lv_iload_n hx hb dX4_fineOf_52 rfl (lv_at hl 2 rfl) ?_
    refine s_iald (j := i) cf hw 2 rfl (rfl) (by omega) rfl dX4_fineOf_53 ?_
    refine lv_topr (y := d (10 + 5 * i + 3)) (rfl) ?_
    refine s_iast (j := 2) cf hw 6 rfl (rfl) (by decide) rfl dX4_fineOf_54 (fun H locs hw => ?_)
    have hw : WD g A s H locs [bO t 4 (tF (lad 0) ad (d 0) (d 9) (d 5) (d 6) (d 7) (d 1) (d 8)), bI g (ad 2) 10 (col d 1), bI g (ad 4) 10 (col d 3), bI g (ad 7) 3 cn, bO (lad 0) 0 ([.ref (lad 1), .ref (lad 2), .ref (lad 3)]), bR g 4 (lad 1) 14 tr, bI g (lad 2) 6 (upd (upd nm 0 (d (10 + 5 * i + 1))) 2 (d (10 + 5 * i + 3))), bI g (lad 3) 96 st_, bO xa 5 ([.int ky, .int pc_, .ref ca]), bI g ca len tc, ot] := hw
    refine lv_aload_n hx hb dX4_fineOf_55 rfl (lv_at hl 0 rfl) ?_
    refine lv_aload_n hx hb dX4_fineOf_56 rfl (lv_at hl 1 rfl) ?_
    refine s_get (v := .ref (lad 0)) fb4 cf hw 0 rfl 0 rfl q154 rfl dX4_fineOf_57 ?_
    refine s_getN (v := .ref (lad 2)) fb0 cf hw 4 rfl 1 rfl q126 rfl dX4_fineOf_60 ?_
    refine lv_aload_n hx hb dX4_fineOf_63 rfl (lv_at hl 1 rfl) ?_
    refine s_get (v := .ref (lad 0)) fb4 cf hw 0 rfl 0 rfl q154 rfl dX4_fineOf_64 ?_
    refine s_getN (v := .ref (lad 3)) fb0 cf hw 4 rfl 2 rfl q128 rfl dX4_fineOf_67 ?_
    refine s_calli (runVN cf (x_value (xa := xa) (ca := ca) (na := lad 2) (sa := lad 3) (ky := ky) (pc_ := pc_) (len := len) (tc := tc) (nm := upd (upd nm 0 (d (10 + 5 * i + 1))) 2 (d (10 + 5 * i + 3))) (st_ := st_) hok hsg) hw [8, 9, 6, 7] (by decide) rfl km_X5_value ki_X5_value q386 (run_recv (ci := 5) (T := TX5) (N := 3) hw 8 rfl rfl) rfl rfl hl.1 rfl dX4_fineOf_70) hw [8, 9, 6, 7] (by decide) rfl (fun _ => rfl) (fun r_6 u_4 H locs hp_5 hw => ?_)
    have hw : WD g A s H locs [bO t 4 (tF (lad 0) ad (d 0) (d 9) (d 5) (d 6) (d 7) (d 1) (d 8)), bI g (ad 2) 10 (col d 1), bI g (ad 4) 10 (col d 3), bI g (ad 7) 3 cn, bO (lad 0) 0 ([.ref (lad 1), .ref (lad 2), .ref (lad 3)]), bR g 4 (lad 1) 14 tr, bI g (lad 2) 6 (upd (upd nm 0 (d (10 + 5 * i + 1))) 2 (d (10 + 5 * i + 3))), bI g (lad 3) 96 u_4, bO xa 5 ([.int ky, .int pc_, .ref ca]), bI g ca len tc, ot] := hw
    subst hp_5
    have hw : WD g A s H locs [bO t 4 (tF (lad 0) ad (d 0) (d 9) (d 5) (d 6) (d 7) (d 1) (d 8)), bI g (ad 2) 10 (col d 1), bI g (ad 4) 10 (col d 3), bI g (ad 7) 3 cn, bO (lad 0) 0 ([.ref (lad 1), .ref (lad 2), .ref (lad 3)]), bR g 4 (lad 1) 14 tr, bI g (lad 2) 6 (upd (upd nm 0 (d (10 + 5 * i + 1))) 2 (d (10 + 5 * i + 3))), bI g (lad 3) 96 u_4, txb] := WD.cls (pre := [bO t 4 (tF (lad 0) ad (d 0) (d 9) (d 5) (d 6) (d 7) (d 1) (d 8)), bI g (ad 2) 10 (col d 1), bI g (ad 4) 10 (col d 3), bI g (ad 7) 3 cn, bO (lad 0) 0 ([.ref (lad 1), .ref (lad 2), .ref (lad 3)]), bR g 4 (lad 1) 14 tr, bI g (lad 2) 6 (upd (upd nm 0 (d (10 + 5 * i + 1))) 2 (d (10 + 5 * i + 3))), bI g (lad 3) 96 u_4]) hw hperm
    exact s_iret cf hr hlk (upd (upd nm 0 (d (10 + 5 * i + 1))) 2 (d (10 + 5 * i + 3)), u_4) hw (eval_fine hnmn) (Nat.le_of_ble_eq_true rfl) (Nat.le_of_ble_eq_true rfl) dX4_fineOf_73 hQ
set_option maxRecDepth 100000 in
set_option maxHeartbeats 4000000 in
theorem x_become {l : Launch} {g : GG} {t : Nat} {lad ad : Nat → Nat} {d cn : DD} {t2 : Nat} {ad2 : Nat → Nat} {d2 cn2 : DD} : Ct l g yX4_become cX4_become 2 (Option.none : Option Jvm.ClassFile.FieldType) 1 0 0 [.ref t, .ref t2] [bO t 4 (tF (lad 0) ad (d 0) (d 9) (d 5) (d 6) (d 7) (d 1) (d 8)), bI g (ad 1) 10 (col d 0), bI g (ad 2) 10 (col d 1), bI g (ad 3) 10 (col d 2), bI g (ad 4) 10 (col d 3), bI g (ad 5) 10 (col d 4), bI g (ad 6) 3 (rulF d), bI g (ad 7) 3 cn, bO t2 4 (tF (lad 0) ad2 (d2 0) (d2 9) (d2 5) (d2 6) (d2 7) (d2 1) (d2 8)), bI g (ad2 1) 10 (col d2 0), bI g (ad2 2) 10 (col d2 1), bI g (ad2 3) 10 (col d2 2), bI g (ad2 4) 10 (col d2 3), bI g (ad2 5) 10 (col d2 4), bI g (ad2 6) 3 (rulF d2), bI g (ad2 7) 3 cn2] (QV g (fun (_ : Unit) => True) (fun _ => [bO t 4 (tF (lad 0) ad (d2 0) (d2 9) (d2 5) (d2 6) (d2 7) (d2 1) (d2 8)), bI g (ad 1) 10 (col d2 0), bI g (ad 2) 10 (col d2 1), bI g (ad 3) 10 (col d2 2), bI g (ad 4) 10 (col d2 3), bI g (ad 5) 10 (col d2 4), bI g (ad 6) 3 (rulF d2), bI g (ad 7) 3 cn2, bO t2 4 (tF (lad 0) ad2 (d2 0) (d2 9) (d2 5) (d2 6) (d2 7) (d2 1) (d2 8)), bI g (ad2 1) 10 (col d2 0), bI g (ad2 2) 10 (col d2 1), bI g (ad2 3) 10 (col d2 2), bI g (ad2 4) 10 (col d2 3), bI g (ad2 5) 10 (col d2 4), bI g (ad2 6) 3 (rulF d2), bI g (ad2 7) 3 cn2])) := by
  refine Ct.of (by decide) rfl ?_
  intro p e s m args below meth c A H locs ls Qf cf hr hlk hnm hQ hw hl
  have hx := cf.1
  have hb := cf.2.1
  have hml := cf.2.2.1
  have hown := cf.2.2.2.1
  have hts := cf.2.2.2.2
  have hw : WD g A s H locs [bO t 4 (tF (lad 0) ad (d 0) (d 9) (d 5) (d 6) (d 7) (d 1) (d 8)), bI g (ad 1) 10 (col d 0), bI g (ad 2) 10 (col d 1), bI g (ad 3) 10 (col d 2), bI g (ad 4) 10 (col d 3), bI g (ad 5) 10 (col d 4), bI g (ad 6) 3 (rulF d), bI g (ad 7) 3 cn, bO t2 4 (tF (lad 0) ad2 (d2 0) (d2 9) (d2 5) (d2 6) (d2 7) (d2 1) (d2 8)), bI g (ad2 1) 10 (col d2 0), bI g (ad2 2) 10 (col d2 1), bI g (ad2 3) 10 (col d2 2), bI g (ad2 4) 10 (col d2 3), bI g (ad2 5) 10 (col d2 4), bI g (ad2 6) 3 (rulF d2), bI g (ad2 7) 3 cn2] := hw
  have hl : lv_has ls 2 [(0, .ref t), (1, .ref t2)] := hl
  refine lv_aload_n hx hb dX4_become_0 rfl (lv_at hl 0 rfl) ?_
  refine lv_aload_n hx hb dX4_become_1 rfl (lv_at hl 1 rfl) ?_
  refine s_get (v := .int (d2 0)) fb4 cf hw 8 rfl 8 rfl q173 rfl dX4_become_2 ?_
  refine s_put (v := .int (d2 0)) fb4 cf hw 0 rfl 8 rfl q173 rfl rfl rfl rfl dX4_become_5 (fun H locs hw => ?_)
  have hw : WD g A s H locs [bO t 4 (tF (lad 0) ad (d2 0) (d 9) (d 5) (d 6) (d 7) (d 1) (d 8)), bI g (ad 1) 10 (col d 0), bI g (ad 2) 10 (col d 1), bI g (ad 3) 10 (col d 2), bI g (ad 4) 10 (col d 3), bI g (ad 5) 10 (col d 4), bI g (ad 6) 3 (rulF d), bI g (ad 7) 3 cn, bO t2 4 (tF (lad 0) ad2 (d2 0) (d2 9) (d2 5) (d2 6) (d2 7) (d2 1) (d2 8)), bI g (ad2 1) 10 (col d2 0), bI g (ad2 2) 10 (col d2 1), bI g (ad2 3) 10 (col d2 2), bI g (ad2 4) 10 (col d2 3), bI g (ad2 5) 10 (col d2 4), bI g (ad2 6) 3 (rulF d2), bI g (ad2 7) 3 cn2] := hw
  refine lv_aload_n hx hb dX4_become_8 rfl (lv_at hl 1 rfl) ?_
  refine s_get (v := .ref (ad2 1)) fb4 cf hw 8 rfl 1 rfl q155 rfl dX4_become_9 ?_
  refine lv_iconst (v := 0) hx hb dX4_become_12 (by decide) ?_
  refine lv_aload_n hx hb dX4_become_13 rfl (lv_at hl 0 rfl) ?_
  refine s_get (v := .ref (ad 1)) fb4 cf hw 0 rfl 1 rfl q155 rfl dX4_become_14 ?_
  refine lv_iconst (v := 0) hx hb dX4_become_17 (by decide) ?_
  refine lv_bipush (v := 10) hx hb dX4_become_18 (by decide) ?_
  refine s_copya cf (by rw [hml]; exact hl.1.symm) hw q545 9 1 rfl rfl rfl rfl rfl rfl dX4_become_20 (fun H locs hw => ?_)
  have hw : WD g A s H locs [bO t 4 (tF (lad 0) ad (d2 0) (d 9) (d 5) (d 6) (d 7) (d 1) (d 8)), bI g (ad 1) 10 (col d2 0), bI g (ad 2) 10 (col d 1), bI g (ad 3) 10 (col d 2), bI g (ad 4) 10 (col d 3), bI g (ad 5) 10 (col d 4), bI g (ad 6) 3 (rulF d), bI g (ad 7) 3 cn, bO t2 4 (tF (lad 0) ad2 (d2 0) (d2 9) (d2 5) (d2 6) (d2 7) (d2 1) (d2 8)), bI g (ad2 1) 10 (col d2 0), bI g (ad2 2) 10 (col d2 1), bI g (ad2 3) 10 (col d2 2), bI g (ad2 4) 10 (col d2 3), bI g (ad2 5) 10 (col d2 4), bI g (ad2 6) 3 (rulF d2), bI g (ad2 7) 3 cn2] := hw
  refine lv_aload_n hx hb dX4_become_23 rfl (lv_at hl 1 rfl) ?_
  refine s_get (v := .ref (ad2 2)) fb4 cf hw 8 rfl 2 rfl q158 rfl dX4_become_24 ?_
  refine lv_iconst (v := 0) hx hb dX4_become_27 (by decide) ?_
  refine lv_aload_n hx hb dX4_become_28 rfl (lv_at hl 0 rfl) ?_
  refine s_get (v := .ref (ad 2)) fb4 cf hw 0 rfl 2 rfl q158 rfl dX4_become_29 ?_
  refine lv_iconst (v := 0) hx hb dX4_become_32 (by decide) ?_
  refine lv_bipush (v := 10) hx hb dX4_become_33 (by decide) ?_
  refine s_copya cf (by rw [hml]; exact hl.1.symm) hw q545 10 2 rfl rfl rfl rfl rfl rfl dX4_become_35 (fun H locs hw => ?_)
  have hw : WD g A s H locs [bO t 4 (tF (lad 0) ad (d2 0) (d 9) (d 5) (d 6) (d 7) (d 1) (d 8)), bI g (ad 1) 10 (col d2 0), bI g (ad 2) 10 (col d2 1), bI g (ad 3) 10 (col d 2), bI g (ad 4) 10 (col d 3), bI g (ad 5) 10 (col d 4), bI g (ad 6) 3 (rulF d), bI g (ad 7) 3 cn, bO t2 4 (tF (lad 0) ad2 (d2 0) (d2 9) (d2 5) (d2 6) (d2 7) (d2 1) (d2 8)), bI g (ad2 1) 10 (col d2 0), bI g (ad2 2) 10 (col d2 1), bI g (ad2 3) 10 (col d2 2), bI g (ad2 4) 10 (col d2 3), bI g (ad2 5) 10 (col d2 4), bI g (ad2 6) 3 (rulF d2), bI g (ad2 7) 3 cn2] := hw
  refine lv_aload_n hx hb dX4_become_38 rfl (lv_at hl 1 rfl) ?_
  refine s_get (v := .ref (ad2 3)) fb4 cf hw 8 rfl 3 rfl q161 rfl dX4_become_39 ?_
  refine lv_iconst (v := 0) hx hb dX4_become_42 (by decide) ?_
  refine lv_aload_n hx hb dX4_become_43 rfl (lv_at hl 0 rfl) ?_
  refine s_get (v := .ref (ad 3)) fb4 cf hw 0 rfl 3 rfl q161 rfl dX4_become_44 ?_
  refine lv_iconst (v := 0) hx hb dX4_become_47 (by decide) ?_
  refine lv_bipush (v := 10) hx hb dX4_become_48 (by decide) ?_
  refine s_copya cf (by rw [hml]; exact hl.1.symm) hw q545 11 3 rfl rfl rfl rfl rfl rfl dX4_become_50 (fun H locs hw => ?_)
  have hw : WD g A s H locs [bO t 4 (tF (lad 0) ad (d2 0) (d 9) (d 5) (d 6) (d 7) (d 1) (d 8)), bI g (ad 1) 10 (col d2 0), bI g (ad 2) 10 (col d2 1), bI g (ad 3) 10 (col d2 2), bI g (ad 4) 10 (col d 3), bI g (ad 5) 10 (col d 4), bI g (ad 6) 3 (rulF d), bI g (ad 7) 3 cn, bO t2 4 (tF (lad 0) ad2 (d2 0) (d2 9) (d2 5) (d2 6) (d2 7) (d2 1) (d2 8)), bI g (ad2 1) 10 (col d2 0), bI g (ad2 2) 10 (col d2 1), bI g (ad2 3) 10 (col d2 2), bI g (ad2 4) 10 (col d2 3), bI g (ad2 5) 10 (col d2 4), bI g (ad2 6) 3 (rulF d2), bI g (ad2 7) 3 cn2] := hw
  refine lv_aload_n hx hb dX4_become_53 rfl (lv_at hl 1 rfl) ?_
  refine s_get (v := .ref (ad2 4)) fb4 cf hw 8 rfl 4 rfl q163 rfl dX4_become_54 ?_
  refine lv_iconst (v := 0) hx hb dX4_become_57 (by decide) ?_
  refine lv_aload_n hx hb dX4_become_58 rfl (lv_at hl 0 rfl) ?_
  refine s_get (v := .ref (ad 4)) fb4 cf hw 0 rfl 4 rfl q163 rfl dX4_become_59 ?_
  refine lv_iconst (v := 0) hx hb dX4_become_62 (by decide) ?_
  refine lv_bipush (v := 10) hx hb dX4_become_63 (by decide) ?_
  refine s_copya cf (by rw [hml]; exact hl.1.symm) hw q545 12 4 rfl rfl rfl rfl rfl rfl dX4_become_65 (fun H locs hw => ?_)
  have hw : WD g A s H locs [bO t 4 (tF (lad 0) ad (d2 0) (d 9) (d 5) (d 6) (d 7) (d 1) (d 8)), bI g (ad 1) 10 (col d2 0), bI g (ad 2) 10 (col d2 1), bI g (ad 3) 10 (col d2 2), bI g (ad 4) 10 (col d2 3), bI g (ad 5) 10 (col d 4), bI g (ad 6) 3 (rulF d), bI g (ad 7) 3 cn, bO t2 4 (tF (lad 0) ad2 (d2 0) (d2 9) (d2 5) (d2 6) (d2 7) (d2 1) (d2 8)), bI g (ad2 1) 10 (col d2 0), bI g (ad2 2) 10 (col d2 1), bI g (ad2 3) 10 (col d2 2), bI g (ad2 4) 10 (col d2 3), bI g (ad2 5) 10 (col d2 4), bI g (ad2 6) 3 (rulF d2), bI g (ad2 7) 3 cn2] := hw
  refine lv_aload_n hx hb dX4_become_68 rfl (lv_at hl 1 rfl) ?_
  refine s_get (v := .ref (ad2 5)) fb4 cf hw 8 rfl 5 rfl q166 rfl dX4_become_69 ?_
  refine lv_iconst (v := 0) hx hb dX4_become_72 (by decide) ?_
  refine lv_aload_n hx hb dX4_become_73 rfl (lv_at hl 0 rfl) ?_
  refine s_get (v := .ref (ad 5)) fb4 cf hw 0 rfl 5 rfl q166 rfl dX4_become_74 ?_
  refine lv_iconst (v := 0) hx hb dX4_become_77 (by decide) ?_
  refine lv_bipush (v := 10) hx hb dX4_become_78 (by decide) ?_
  refine s_copya cf (by rw [hml]; exact hl.1.symm) hw q545 13 5 rfl rfl rfl rfl rfl rfl dX4_become_80 (fun H locs hw => ?_)
  have hw : WD g A s H locs [bO t 4 (tF (lad 0) ad (d2 0) (d 9) (d 5) (d 6) (d 7) (d 1) (d 8)), bI g (ad 1) 10 (col d2 0), bI g (ad 2) 10 (col d2 1), bI g (ad 3) 10 (col d2 2), bI g (ad 4) 10 (col d2 3), bI g (ad 5) 10 (col d2 4), bI g (ad 6) 3 (rulF d), bI g (ad 7) 3 cn, bO t2 4 (tF (lad 0) ad2 (d2 0) (d2 9) (d2 5) (d2 6) (d2 7) (d2 1) (d2 8)), bI g (ad2 1) 10 (col d2 0), bI g (ad2 2) 10 (col d2 1), bI g (ad2 3) 10 (col d2 2), bI g (ad2 4) 10 (col d2 3), bI g (ad2 5) 10 (col d2 4), bI g (ad2 6) 3 (rulF d2), bI g (ad2 7) 3 cn2] := hw
  refine lv_aload_n hx hb dX4_become_83 rfl (lv_at hl 1 rfl) ?_
  refine s_get (v := .ref (ad2 6)) fb4 cf hw 8 rfl 6 rfl q169 rfl dX4_become_84 ?_
  refine lv_iconst (v := 0) hx hb dX4_become_87 (by decide) ?_
  refine lv_aload_n hx hb dX4_become_88 rfl (lv_at hl 0 rfl) ?_
  refine s_get (v := .ref (ad 6)) fb4 cf hw 0 rfl 6 rfl q169 rfl dX4_become_89 ?_
  refine lv_iconst (v := 0) hx hb dX4_become_92 (by decide) ?_
  refine lv_aload_n hx hb dX4_become_93 rfl (lv_at hl 0 rfl) ?_
  refine s_get (v := .ref (ad 6)) fb4 cf hw 0 rfl 6 rfl q169 rfl dX4_become_94 ?_
  refine s_alen (n32 := 3) cf hw 0 rfl 6 rfl rfl dX4_become_97 ?_
  refine s_copya cf (by rw [hml]; exact hl.1.symm) hw q545 14 6 rfl rfl rfl rfl rfl rfl dX4_become_98 (fun H locs hw => ?_)
  have hw : WD g A s H locs [bO t 4 (tF (lad 0) ad (d2 0) (d 9) (d 5) (d 6) (d 7) (d 1) (d 8)), bI g (ad 1) 10 (col d2 0), bI g (ad 2) 10 (col d2 1), bI g (ad 3) 10 (col d2 2), bI g (ad 4) 10 (col d2 3), bI g (ad 5) 10 (col d2 4), bI g (ad 6) 3 (rulF d2), bI g (ad 7) 3 cn, bO t2 4 (tF (lad 0) ad2 (d2 0) (d2 9) (d2 5) (d2 6) (d2 7) (d2 1) (d2 8)), bI g (ad2 1) 10 (col d2 0), bI g (ad2 2) 10 (col d2 1), bI g (ad2 3) 10 (col d2 2), bI g (ad2 4) 10 (col d2 3), bI g (ad2 5) 10 (col d2 4), bI g (ad2 6) 3 (rulF d2), bI g (ad2 7) 3 cn2] := hw
  refine lv_aload_n hx hb dX4_become_101 rfl (lv_at hl 1 rfl) ?_
  refine s_get (v := .ref (ad2 7)) fb4 cf hw 8 rfl 7 rfl q171 rfl dX4_become_102 ?_
  refine lv_iconst (v := 0) hx hb dX4_become_105 (by decide) ?_
  refine lv_aload_n hx hb dX4_become_106 rfl (lv_at hl 0 rfl) ?_
  refine s_get (v := .ref (ad 7)) fb4 cf hw 0 rfl 7 rfl q171 rfl dX4_become_107 ?_
  refine lv_iconst (v := 0) hx hb dX4_become_110 (by decide) ?_
  refine lv_iconst (v := 3) hx hb dX4_become_111 (by decide) ?_
  refine s_copya cf (by rw [hml]; exact hl.1.symm) hw q545 15 7 rfl rfl rfl rfl rfl rfl dX4_become_112 (fun H locs hw => ?_)
  have hw : WD g A s H locs [bO t 4 (tF (lad 0) ad (d2 0) (d 9) (d 5) (d 6) (d 7) (d 1) (d 8)), bI g (ad 1) 10 (col d2 0), bI g (ad 2) 10 (col d2 1), bI g (ad 3) 10 (col d2 2), bI g (ad 4) 10 (col d2 3), bI g (ad 5) 10 (col d2 4), bI g (ad 6) 3 (rulF d2), bI g (ad 7) 3 cn2, bO t2 4 (tF (lad 0) ad2 (d2 0) (d2 9) (d2 5) (d2 6) (d2 7) (d2 1) (d2 8)), bI g (ad2 1) 10 (col d2 0), bI g (ad2 2) 10 (col d2 1), bI g (ad2 3) 10 (col d2 2), bI g (ad2 4) 10 (col d2 3), bI g (ad2 5) 10 (col d2 4), bI g (ad2 6) 3 (rulF d2), bI g (ad2 7) 3 cn2] := hw
  refine lv_aload_n hx hb dX4_become_115 rfl (lv_at hl 0 rfl) ?_
  refine lv_aload_n hx hb dX4_become_116 rfl (lv_at hl 1 rfl) ?_
  refine s_get (v := .int (d2 9)) fb4 cf hw 8 rfl 9 rfl q175 rfl dX4_become_117 ?_
  refine s_put (v := .int (d2 9)) fb4 cf hw 0 rfl 9 rfl q175 rfl rfl rfl rfl dX4_become_120 (fun H locs hw => ?_)
  have hw : WD g A s H locs [bO t 4 (tF (lad 0) ad (d2 0) (d2 9) (d 5) (d 6) (d 7) (d 1) (d 8)), bI g (ad 1) 10 (col d2 0), bI g (ad 2) 10 (col d2 1), bI g (ad 3) 10 (col d2 2), bI g (ad 4) 10 (col d2 3), bI g (ad 5) 10 (col d2 4), bI g (ad 6) 3 (rulF d2), bI g (ad 7) 3 cn2, bO t2 4 (tF (lad 0) ad2 (d2 0) (d2 9) (d2 5) (d2 6) (d2 7) (d2 1) (d2 8)), bI g (ad2 1) 10 (col d2 0), bI g (ad2 2) 10 (col d2 1), bI g (ad2 3) 10 (col d2 2), bI g (ad2 4) 10 (col d2 3), bI g (ad2 5) 10 (col d2 4), bI g (ad2 6) 3 (rulF d2), bI g (ad2 7) 3 cn2] := hw
  refine lv_aload_n hx hb dX4_become_123 rfl (lv_at hl 0 rfl) ?_
  refine lv_aload_n hx hb dX4_become_124 rfl (lv_at hl 1 rfl) ?_
  refine s_get (v := .int (d2 5)) fb4 cf hw 8 rfl 10 rfl q177 rfl dX4_become_125 ?_
  refine s_put (v := .int (d2 5)) fb4 cf hw 0 rfl 10 rfl q177 rfl rfl rfl rfl dX4_become_128 (fun H locs hw => ?_)
  have hw : WD g A s H locs [bO t 4 (tF (lad 0) ad (d2 0) (d2 9) (d2 5) (d 6) (d 7) (d 1) (d 8)), bI g (ad 1) 10 (col d2 0), bI g (ad 2) 10 (col d2 1), bI g (ad 3) 10 (col d2 2), bI g (ad 4) 10 (col d2 3), bI g (ad 5) 10 (col d2 4), bI g (ad 6) 3 (rulF d2), bI g (ad 7) 3 cn2, bO t2 4 (tF (lad 0) ad2 (d2 0) (d2 9) (d2 5) (d2 6) (d2 7) (d2 1) (d2 8)), bI g (ad2 1) 10 (col d2 0), bI g (ad2 2) 10 (col d2 1), bI g (ad2 3) 10 (col d2 2), bI g (ad2 4) 10 (col d2 3), bI g (ad2 5) 10 (col d2 4), bI g (ad2 6) 3 (rulF d2), bI g (ad2 7) 3 cn2] := hw
  refine lv_aload_n hx hb dX4_become_131 rfl (lv_at hl 0 rfl) ?_
  refine lv_aload_n hx hb dX4_become_132 rfl (lv_at hl 1 rfl) ?_
  refine s_get (v := .int (d2 6)) fb4 cf hw 8 rfl 11 rfl q179 rfl dX4_become_133 ?_
  refine s_put (v := .int (d2 6)) fb4 cf hw 0 rfl 11 rfl q179 rfl rfl rfl rfl dX4_become_136 (fun H locs hw => ?_)
  have hw : WD g A s H locs [bO t 4 (tF (lad 0) ad (d2 0) (d2 9) (d2 5) (d2 6) (d 7) (d 1) (d 8)), bI g (ad 1) 10 (col d2 0), bI g (ad 2) 10 (col d2 1), bI g (ad 3) 10 (col d2 2), bI g (ad 4) 10 (col d2 3), bI g (ad 5) 10 (col d2 4), bI g (ad 6) 3 (rulF d2), bI g (ad 7) 3 cn2, bO t2 4 (tF (lad 0) ad2 (d2 0) (d2 9) (d2 5) (d2 6) (d2 7) (d2 1) (d2 8)), bI g (ad2 1) 10 (col d2 0), bI g (ad2 2) 10 (col d2 1), bI g (ad2 3) 10 (col d2 2), bI g (ad2 4) 10 (col d2 3), bI g (ad2 5) 10 (col d2 4), bI g (ad2 6) 3 (rulF d2), bI g (ad2 7) 3 cn2] := hw
  refine lv_aload_n hx hb dX4_become_139 rfl (lv_at hl 0 rfl) ?_
  refine lv_aload_n hx hb dX4_become_140 rfl (lv_at hl 1 rfl) ?_
  refine s_get (v := .int (d2 7)) fb4 cf hw 8 rfl 12 rfl q181 rfl dX4_become_141 ?_
  refine s_put (v := .int (d2 7)) fb4 cf hw 0 rfl 12 rfl q181 rfl rfl rfl rfl dX4_become_144 (fun H locs hw => ?_)
  have hw : WD g A s H locs [bO t 4 (tF (lad 0) ad (d2 0) (d2 9) (d2 5) (d2 6) (d2 7) (d 1) (d 8)), bI g (ad 1) 10 (col d2 0), bI g (ad 2) 10 (col d2 1), bI g (ad 3) 10 (col d2 2), bI g (ad 4) 10 (col d2 3), bI g (ad 5) 10 (col d2 4), bI g (ad 6) 3 (rulF d2), bI g (ad 7) 3 cn2, bO t2 4 (tF (lad 0) ad2 (d2 0) (d2 9) (d2 5) (d2 6) (d2 7) (d2 1) (d2 8)), bI g (ad2 1) 10 (col d2 0), bI g (ad2 2) 10 (col d2 1), bI g (ad2 3) 10 (col d2 2), bI g (ad2 4) 10 (col d2 3), bI g (ad2 5) 10 (col d2 4), bI g (ad2 6) 3 (rulF d2), bI g (ad2 7) 3 cn2] := hw
  refine lv_aload_n hx hb dX4_become_147 rfl (lv_at hl 0 rfl) ?_
  refine lv_aload_n hx hb dX4_become_148 rfl (lv_at hl 1 rfl) ?_
  refine s_get (v := .int (d2 1)) fb4 cf hw 8 rfl 13 rfl q182 rfl dX4_become_149 ?_
  refine s_put (v := .int (d2 1)) fb4 cf hw 0 rfl 13 rfl q182 rfl rfl rfl rfl dX4_become_152 (fun H locs hw => ?_)
  have hw : WD g A s H locs [bO t 4 (tF (lad 0) ad (d2 0) (d2 9) (d2 5) (d2 6) (d2 7) (d2 1) (d 8)), bI g (ad 1) 10 (col d2 0), bI g (ad 2) 10 (col d2 1), bI g (ad 3) 10 (col d2 2), bI g (ad 4) 10 (col d2 3), bI g (ad 5) 10 (col d2 4), bI g (ad 6) 3 (rulF d2), bI g (ad 7) 3 cn2, bO t2 4 (tF (lad 0) ad2 (d2 0) (d2 9) (d2 5) (d2 6) (d2 7) (d2 1) (d2 8)), bI g (ad2 1) 10 (col d2 0), bI g (ad2 2) 10 (col d2 1), bI g (ad2 3) 10 (col d2 2), bI g (ad2 4) 10 (col d2 3), bI g (ad2 5) 10 (col d2 4), bI g (ad2 6) 3 (rulF d2), bI g (ad2 7) 3 cn2] := hw
  refine lv_aload_n hx hb dX4_become_155 rfl (lv_at hl 0 rfl) ?_
  refine lv_aload_n hx hb dX4_become_156 rfl (lv_at hl 1 rfl) ?_
  refine s_get (v := .int (d2 8)) fb4 cf hw 8 rfl 14 rfl q184 rfl dX4_become_157 ?_
  refine s_put (v := .int (d2 8)) fb4 cf hw 0 rfl 14 rfl q184 rfl rfl rfl rfl dX4_become_160 (fun H locs hw => ?_)
  have hw : WD g A s H locs [bO t 4 (tF (lad 0) ad (d2 0) (d2 9) (d2 5) (d2 6) (d2 7) (d2 1) (d2 8)), bI g (ad 1) 10 (col d2 0), bI g (ad 2) 10 (col d2 1), bI g (ad 3) 10 (col d2 2), bI g (ad 4) 10 (col d2 3), bI g (ad 5) 10 (col d2 4), bI g (ad 6) 3 (rulF d2), bI g (ad 7) 3 cn2, bO t2 4 (tF (lad 0) ad2 (d2 0) (d2 9) (d2 5) (d2 6) (d2 7) (d2 1) (d2 8)), bI g (ad2 1) 10 (col d2 0), bI g (ad2 2) 10 (col d2 1), bI g (ad2 3) 10 (col d2 2), bI g (ad2 4) 10 (col d2 3), bI g (ad2 5) 10 (col d2 4), bI g (ad2 6) 3 (rulF d2), bI g (ad2 7) 3 cn2] := hw
  exact s_vret cf hr hlk () hw trivial (Nat.le_of_ble_eq_true rfl) (Nat.le_of_ble_eq_true rfl) dX4_become_163 hQ
