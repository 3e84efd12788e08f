set_option maxRecDepth 100000 in
set_option maxHeartbeats 4000000 in
theorem x_deliver {l : Launch} {g : GG} {t : Nat} {lad ad : Nat → Nat} {d cn : DD} {nm st_ : DD} {tr : Nat → Option Nat} {txb : va_W} {ft : TXC} (hF : FitAt g tr txb (cn 0) ft) (hFo : okF ft) (hI : InvH d) (i : Nat) (hi : i < 10) : Ct l g yX4_deliver cX4_deliver 3 (Option.some Jvm.ClassFile.FieldType.int) 4 0 0 [.ref t, .int (nI i)] [bO t 4 (tF (lad 0) ad (d 0) (d 9) (d 5) (d 6) (d 7) (d 1) (d 8)), bI g (ad 1) 10 (col d 0), bI g (ad 2) 10 (col d 1), bI g (ad 3) 10 (col d 2), bI g (ad 4) 10 (col d 3), bI g (ad 5) 10 (col d 4), bI g (ad 6) 3 (rulF d), bI g (ad 7) 3 cn, bO (lad 0) 0 ([.ref (lad 1), .ref (lad 2), .ref (lad 3)]), bR g 4 (lad 1) 14 tr, bI g (lad 2) 6 nm, bI g (lad 3) 96 st_, txb] (QI g (fun r (_ : DD × DD) => r = deliverF ft d i (10 + 5 * i + 3) - d (10 + 5 * i + 3)) (fun u => [bO t 4 (tF (lad 0) ad ((deliverF ft d i) 0) ((deliverF ft d i) 9) ((deliverF ft d i) 5) ((deliverF ft d i) 6) ((deliverF ft d i) 7) ((deliverF ft d i) 1) ((deliverF ft d i) 8)), bI g (ad 1) 10 (col (deliverF ft d i) 0), bI g (ad 2) 10 (col (deliverF ft d i) 1), bI g (ad 3) 10 (col (deliverF ft d i) 2), bI g (ad 4) 10 (col (deliverF ft d i) 3), bI g (ad 5) 10 (col (deliverF ft d i) 4), bI g (ad 6) 3 (rulF (deliverF ft d i)), bI g (ad 7) 3 cn, bO (lad 0) 0 ([.ref (lad 1), .ref (lad 2), .ref (lad 3)]), bR g 4 (lad 1) 14 tr, bI g (lad 2) 6 u.1, bI g (lad 3) 96 u.2, txb])) := by
  refine Ct.of (by decide) rfl ?_
  intro p e s m args below meth c A H locs ls Qf cf hr hlk hnm hQ hw hl
  have hx := cf.1
  have hb := cf.2.1
  have hml := cf.2.2.1
  have hown := cf.2.2.2.1
  have hts := cf.2.2.2.2
  have hw : WD g A s H locs [bO t 4 (tF (lad 0) ad (d 0) (d 9) (d 5) (d 6) (d 7) (d 1) (d 8)), bI g (ad 1) 10 (col d 0), bI g (ad 2) 10 (col d 1), bI g (ad 3) 10 (col d 2), bI g (ad 4) 10 (col d 3), bI g (ad 5) 10 (col d 4), bI g (ad 6) 3 (rulF d), bI g (ad 7) 3 cn, bO (lad 0) 0 ([.ref (lad 1), .ref (lad 2), .ref (lad 3)]), bR g 4 (lad 1) 14 tr, bI g (lad 2) 6 nm, bI g (lad 3) 96 st_, txb] := hw
  have hl : lv_has ls 3 [(0, .ref t), (1, .int (nI i))] := hl
  have b3 : 0 ≤ d (10 + 5 * i + 3) ∧ d (10 + 5 * i + 3) ≤ 99 := inv_at hI i 3 (by omega)
  have b7 := hI 7 99999 rfl
  have br := hI 3 99 rfl
  refine lv_aload_n hx hb dX4_deliver_0 rfl (lv_at hl 0 rfl) ?_
  refine lv_iload_n hx hb dX4_deliver_1 rfl (lv_at hl 1 rfl) ?_
  refine s_calli (runV cf (x_slack (t := t) (lad := lad) (ad := ad) (d := d) (cn := cn) (nm := nm) (st_ := st_) (tr := tr) (txb := txb) (ft := ft) hF hFo hI i (by omega)) hw [0, 1, 2, 3, 4, 7, 8, 9, 10, 11, 12] (by decide) rfl km_X4_slack ki_X4_slack q485 (run_recv (ci := 4) (T := TX4) (N := 15) hw 0 rfl rfl) rfl rfl hl.1 rfl dX4_deliver_2) hw [0, 1, 2, 3, 4, 7, 8, 9, 10, 11, 12] (by decide) rfl (fun _ => rfl) (fun r_3 u_1 H locs hp_2 hw => ?_)
  have hw : WD g A s H locs [bO t 4 (tF (lad 0) ad (d 0) (d 9) (d 5) (d 6) (d 7) (d 1) (d 8)), bI g (ad 1) 10 (col d 0), bI g (ad 2) 10 (col d 1), bI g (ad 3) 10 (col d 2), bI g (ad 4) 10 (col d 3), bI g (ad 5) 10 (col d 4), bI g (ad 6) 3 (rulF d), bI g (ad 7) 3 cn, bO (lad 0) 0 ([.ref (lad 1), .ref (lad 2), .ref (lad 3)]), bR g 4 (lad 1) 14 tr, bI g (lad 2) 6 u_1.1, bI g (lad 3) 96 u_1.2, txb] := hw
  subst hp_2
  refine lv_if_ne (tgt := 25) hx hb dX4_deliver_5 (by decide) (fun c5 => ?_) (fun c5 => ?_)
  · refine lv_aload_n hx hb dX4_deliver_25 rfl (lv_at hl 0 rfl) ?_
    refine s_get (v := .ref (ad 4)) fb4 cf hw 0 rfl 4 rfl q163 rfl dX4_deliver_26 ?_
    refine lv_iload_n hx hb dX4_deliver_29 rfl (lv_at hl 1 rfl) ?_
    refine s_iald (j := i) cf hw 4 rfl (rfl) (by omega) rfl dX4_deliver_30 ?_
    refine lv_topr (y := d (10 + 5 * i + 3)) (rfl) ?_
    refine lv_istore_n (lv' := [(2, .int (d (10 + 5 * i + 3))), (0, .ref t), (1, .int (nI i))]) hx hb dX4_deliver_31 rfl hl (by decide) rfl (fun ls hl => ?_)
    refine lv_aload_n hx hb dX4_deliver_32 rfl (lv_at hl 1 rfl) ?_
    refine s_get (v := .ref (ad 4)) fb4 cf hw 0 rfl 4 rfl q163 rfl dX4_deliver_33 ?_
    refine lv_iload_n hx hb dX4_deliver_36 rfl (lv_at hl 2 rfl) ?_
    refine lv_bipush (v := 99) hx hb dX4_deliver_37 (by decide) ?_
    refine lv_iload_n hx hb dX4_deliver_39 rfl (lv_at hl 0 rfl) ?_
    refine lv_aload_n hx hb dX4_deliver_40 rfl (lv_at hl 1 rfl) ?_
    refine s_get (v := .ref (ad 6)) fb4 cf hw 0 rfl 6 rfl q169 rfl dX4_deliver_41 ?_
    refine lv_iconst (v := 1) hx hb dX4_deliver_44 (by decide) ?_
    refine s_iald (j := 1) cf hw 6 rfl (rfl) (by decide) rfl dX4_deliver_45 ?_
    refine lv_topr (y := d 3) (rfl) ?_
    refine lv_iadd hx hb dX4_deliver_46 ?_
    refine va_mmin hx hb (by rw [hml]; exact hl.1.symm) hown (hts _ q417) (hts _ ks_J9_min_7cf53) (hts _ km_J9_min_7cf53.1) (hts _ km_J9_min_7cf53.2.1) (Nat.le_of_ble_eq_true rfl) (Nat.le_of_ble_eq_true rfl) (Nat.le_of_ble_eq_true rfl) (Nat.le_of_ble_eq_true rfl) dX4_deliver_47 ?_
    refine lv_topr (y := held (d (10 + 5 * i + 3) + d 3) 0 99) (min_held (add_nn b3.1 b3.2 br.1 br.2 (by decide) (by decide)) (by decide)) ?_
    refine s_iast (j := i) cf hw 4 rfl (rfl) (by omega) rfl dX4_deliver_50 (fun H locs hw => ?_)
    have hw : WD g A s H locs [bO t 4 (tF (lad 0) ad (d 0) (d 9) (d 5) (d 6) (d 7) (d 1) (d 8)), bI g (ad 1) 10 (col d 0), bI g (ad 2) 10 (col d 1), bI g (ad 3) 10 (col d 2), bI g (ad 4) 10 (upd (col d 3) i (held (d (10 + 5 * i + 3) + d 3) 0 99)), bI g (ad 5) 10 (col d 4), bI g (ad 6) 3 (rulF d), bI g (ad 7) 3 cn, bO (lad 0) 0 ([.ref (lad 1), .ref (lad 2), .ref (lad 3)]), bR g 4 (lad 1) 14 tr, bI g (lad 2) 6 u_1.1, bI g (lad 3) 96 u_1.2, txb] := hw
    refine lv_aload_n hx hb dX4_deliver_51 rfl (lv_at hl 1 rfl) ?_
    refine s_get (v := .ref (ad 4)) fb4 cf hw 0 rfl 4 rfl q163 rfl dX4_deliver_52 ?_
    refine lv_iload_n hx hb dX4_deliver_55 rfl (lv_at hl 2 rfl) ?_
    refine s_iald (j := i) cf hw 4 rfl (rfl) (by omega) rfl dX4_deliver_56 ?_
    refine lv_iload_n hx hb dX4_deliver_57 rfl (lv_at hl 0 rfl) ?_
    refine lv_isub hx hb dX4_deliver_58 ?_
    have he : deliverF ft d i = upd d (10 + 5 * i + 3) (held (d (10 + 5 * i + 3) + d 3) 0 99) := by unfold deliverF; rw [if_neg c5]
    exact s_iret cf hr hlk (u_1.1, u_1.2) (by rw [he]; exact tw_wd (rest := [bO (lad 0) 0 ([.ref (lad 1), .ref (lad 2), .ref (lad 3)]), bR g 4 (lad 1) 14 tr, bI g (lad 2) 6 u_1.1, bI g (lad 3) 96 u_1.2, txb]) (e := upd d (10 + 5 * i + 3) (held (d (10 + 5 * i + 3) + d 3) 0 99)) (tw_house i 3 _ (by omega)) hw) (by rw [he, upd_eq, upd_eq]) (Nat.le_of_ble_eq_true rfl) (Nat.le_of_ble_eq_true rfl) dX4_deliver_59 hQ
  · refine lv_aload_n hx hb dX4_deliver_8 rfl (lv_at hl 0 rfl) ?_
    refine lv_ldc hx hb hown (hts _ q486) dX4_deliver_9 ?_
    refine lv_aload_n hx hb dX4_deliver_11 rfl (lv_at hl 0 rfl) ?_
    refine s_get (v := .int (d 7)) fb4 cf hw 0 rfl 12 rfl q181 rfl dX4_deliver_12 ?_
    refine lv_iconst (v := 1) hx hb dX4_deliver_15 (by decide) ?_
    refine lv_iadd hx hb dX4_deliver_16 ?_
    refine va_mmin hx hb (by rw [hml]; exact hl.1.symm) hown (hts _ q417) (hts _ ks_J9_min_7cf53) (hts _ km_J9_min_7cf53.1) (hts _ km_J9_min_7cf53.2.1) (Nat.le_of_ble_eq_true rfl) (Nat.le_of_ble_eq_true rfl) (Nat.le_of_ble_eq_true rfl) (Nat.le_of_ble_eq_true rfl) dX4_deliver_17 ?_
    refine lv_topr (y := held (d 7 + 1) 0 99999) (min_held (add_nn b7.1 b7.2 (by decide) (show (1 : Int32) ≤ 1 by decide) (by decide) (by decide)) (by decide)) ?_
    refine s_put (v := .int (held (d 7 + 1) 0 99999)) fb4 cf hw 0 rfl 12 rfl q181 rfl rfl rfl rfl dX4_deliver_20 (fun H locs hw => ?_)
    have hw : WD g A s H locs [bO t 4 (tF (lad 0) ad (d 0) (d 9) (d 5) (d 6) (held (d 7 + 1) 0 99999) (d 1) (d 8)), bI g (ad 1) 10 (col d 0), bI g (ad 2) 10 (col d 1), bI g (ad 3) 10 (col d 2), bI g (ad 4) 10 (col d 3), bI g (ad 5) 10 (col d 4), bI g (ad 6) 3 (rulF d), bI g (ad 7) 3 cn, bO (lad 0) 0 ([.ref (lad 1), .ref (lad 2), .ref (lad 3)]), bR g 4 (lad 1) 14 tr, bI g (lad 2) 6 u_1.1, bI g (lad 3) 96 u_1.2, txb] := hw
    refine lv_iconst (v := 0) hx hb dX4_deliver_23 (by decide) ?_
    have he : deliverF ft d i = upd d 7 (held (d 7 + 1) 0 99999) := by unfold deliverF; rw [if_pos c5]
    exact s_iret cf hr hlk (u_1.1, u_1.2) (by rw [he]; exact tw_wd (rest := [bO (lad 0) 0 ([.ref (lad 1), .ref (lad 2), .ref (lad 3)]), bR g 4 (lad 1) 14 tr, bI g (lad 2) 6 u_1.1, bI g (lad 3) 96 u_1.2, txb]) (e := upd d 7 (held (d 7 + 1) 0 99999)) (tw_lo (by omega) (by omega)) hw) (by rw [he, upd_ne (by omega), Int32.sub_self]) (Nat.le_of_ble_eq_true rfl) (Nat.le_of_ble_eq_true rfl) dX4_deliver_24 hQ
set_option maxRecDepth 100000 in
set_option maxHeartbeats 4000000 in
theorem x_clank {l : Launch} {g : GG} {t : Nat} {lad ad : Nat → Nat} {d cn : DD} {nm st_ : DD} {tr : Nat → Option Nat} {txb : va_W} {ft : TXC} (hF : FitAt g tr txb (cn 0) ft) (hFo : okF ft) (hI : InvH d) : Ct l g yX4_clank cX4_clank 3 (Option.none : Option Jvm.ClassFile.FieldType) 4 0 0 [.ref t] [bO t 4 (tF (lad 0) ad (d 0) (d 9) (d 5) (d 6) (d 7) (d 1) (d 8)), bI g (ad 1) 10 (col d 0), bI g (ad 2) 10 (col d 1), bI g (ad 3) 10 (col d 2), bI g (ad 4) 10 (col d 3), bI g (ad 5) 10 (col d 4), bI g (ad 6) 3 (rulF d), bI g (ad 7) 3 cn, bO (lad 0) 0 ([.ref (lad 1), .ref (lad 2), .ref (lad 3)]), bR g 4 (lad 1) 14 tr, bI g (lad 2) 6 nm, bI g (lad 3) 96 st_, txb] (QV g (fun (_ : DD × DD) => True) (fun u => [bO t 4 (tF (lad 0) ad ((roundF ft d) 0) ((roundF ft d) 9) ((roundF ft d) 5) ((roundF ft d) 6) ((roundF ft d) 7) ((roundF ft d) 1) ((roundF ft d) 8)), bI g (ad 1) 10 (col (roundF ft d) 0), bI g (ad 2) 10 (col (roundF ft d) 1), bI g (ad 3) 10 (col (roundF ft d) 2), bI g (ad 4) 10 (col (roundF ft d) 3), bI g (ad 5) 10 (col (roundF ft d) 4), bI g (ad 6) 3 (rulF (roundF ft d)), bI g (ad 7) 3 cn, bO (lad 0) 0 ([.ref (lad 1), .ref (lad 2), .ref (lad 3)]), bR g 4 (lad 1) 14 tr, bI g (lad 2) 6 u.1, bI g (lad 3) 96 u.2, txb])) := by
  refine Ct.of (by decide) rfl ?_
  intro p e s m args below meth c A H locs ls Qf cf hr hlk hnm hQ hw hl
  have hx := cf.1
  have hb := cf.2.1
  have hml := cf.2.2.1
  have hown := cf.2.2.2.1
  have hts := cf.2.2.2.2
  have hw : WD g A s H locs [bO t 4 (tF (lad 0) ad (d 0) (d 9) (d 5) (d 6) (d 7) (d 1) (d 8)), bI g (ad 1) 10 (col d 0), bI g (ad 2) 10 (col d 1), bI g (ad 3) 10 (col d 2), bI g (ad 4) 10 (col d 3), bI g (ad 5) 10 (col d 4), bI g (ad 6) 3 (rulF d), bI g (ad 7) 3 cn, bO (lad 0) 0 ([.ref (lad 1), .ref (lad 2), .ref (lad 3)]), bR g 4 (lad 1) 14 tr, bI g (lad 2) 6 nm, bI g (lad 3) 96 st_, txb] := hw
  have hl : lv_has ls 3 [(0, .ref t)] := hl
  obtain ⟨n, hn10, hn⟩ := inv_n hI
  have b6 := hI 6 99999 rfl
  have hlo := loud_ones (ft := ft) (d := d) hn10
  refine lv_iconst (v := 0) hx hb dX4_clank_0 (by decide) ?_
  refine lv_istore_n (lv' := [(1, .int 0), (0, .ref t)]) hx hb dX4_clank_1 rfl hl (by decide) rfl (fun ls hl => ?_)
  refine lv_iconst (v := 0) hx hb dX4_clank_2 (by decide) ?_
  refine lv_istore_n (lv' := [(2, .int 0), (1, .int 0), (0, .ref t)]) hx hb dX4_clank_3 rfl hl (by decide) rfl (fun ls hl => ?_)
  have L4 : ∀ (fu : Nat) (i : Nat) (nm st_ : DD), (i ≤ n) → (n < i + fu) → ∀ (H : Heap) (locs : List Loc) (ls : Array Slot), WD g A s H locs [bO t 4 (tF (lad 0) ad (d 0) (d 9) (d 5) (d 6) (d 7) (d 1) (d 8)), bI g (ad 1) 10 (col d 0), bI g (ad 2) 10 (col d 1), bI g (ad 3) 10 (col d 2), bI g (ad 4) 10 (col d 3), bI g (ad 5) 10 (hdF ft d i), bI g (ad 6) 3 (rulF d), bI g (ad 7) 3 cn, bO (lad 0) 0 ([.ref (lad 1), .ref (lad 2), .ref (lad 3)]), bR g 4 (lad 1) 14 tr, bI g (lad 2) 6 nm, bI g (lad 3) 96 st_, txb] → lv_has ls 3 [(0, .ref t), (1, .int (loudF ft d i)), (2, .int (nI i))] → W p l e (rmx 4 0 0) s m args below meth c H locs 0 0 Qf (F0 m 4 ls []) := by
    intro fu
    induction fu with
    | zero => intro i nm st_ hi hfu; exfalso; omega
    | succ fu ih4 =>
      intro i nm st_ hi hfu H locs ls hw hl
      refine lv_iload_n hx hb dX4_clank_4 rfl (lv_at hl 2 rfl) ?_
      refine lv_aload_n hx hb dX4_clank_5 rfl (lv_at hl 0 rfl) ?_
      refine s_get (v := .int (d 0)) fb4 cf hw 0 rfl 8 rfl q173 rfl dX4_clank_6 ?_
      refine lv_icmp_ge (tgt := 58) hx hb dX4_clank_9 (by decide) (fun c9 => ?_) (fun c9 => ?_)
      · have hi2 : n = i := by rw [hn] at c9; have := nI_le_of (by omega) c9 (by omega); omega
        have hl : lv_has ls 3 [(0, .ref t), (1, .int (loudF ft d n)), (2, .int (nI i))] := by rw [hi2]; exact hl
        have hw : WD g A s H locs [bO t 4 (tF (lad 0) ad (d 0) (d 9) (d 5) (d 6) (d 7) (d 1) (d 8)), bI g (ad 1) 10 (col d 0), bI g (ad 2) 10 (col d 1), bI g (ad 3) 10 (col d 2), bI g (ad 4) 10 (col d 3), bI g (ad 5) 10 (hdF ft d n), bI g (ad 6) 3 (rulF d), bI g (ad 7) 3 cn, bO (lad 0) 0 ([.ref (lad 1), .ref (lad 2), .ref (lad 3)]), bR g 4 (lad 1) 14 tr, bI g (lad 2) 6 nm, bI g (lad 3) 96 st_, txb] := by rw [hi2]; exact hw
        refine lv_aload_n hx hb dX4_clank_58 rfl (lv_at hl 0 rfl) ?_
        refine lv_ldc hx hb hown (hts _ q486) dX4_clank_59 ?_
        refine lv_aload_n hx hb dX4_clank_61 rfl (lv_at hl 0 rfl) ?_
        refine s_get (v := .int (d 6)) fb4 cf hw 0 rfl 11 rfl q179 rfl dX4_clank_62 ?_
        refine lv_iload_n hx hb dX4_clank_65 rfl (lv_at hl 1 rfl) ?_
        refine s_calli (runS cf (x_bitCount (loudF ft d n)) hw [] (by decide) rfl km_J6_bitCount_0f7a4 ks_J6_bitCount_0f7a4 q411 rfl rfl hl.1 rfl dX4_clank_66) hw [] (by decide) rfl (fun _ => rfl) (fun r_3 u_1 H locs hp_2 hw => ?_)
        have hw : WD g A s H locs [bO t 4 (tF (lad 0) ad (d 0) (d 9) (d 5) (d 6) (d 7) (d 1) (d 8)), bI g (ad 1) 10 (col d 0), bI g (ad 2) 10 (col d 1), bI g (ad 3) 10 (col d 2), bI g (ad 4) 10 (col d 3), bI g (ad 5) 10 (hdF ft d n), bI g (ad 6) 3 (rulF d), bI g (ad 7) 3 cn, bO (lad 0) 0 ([.ref (lad 1), .ref (lad 2), .ref (lad 3)]), bR g 4 (lad 1) 14 tr, bI g (lad 2) 6 nm, bI g (lad 3) 96 st_, txb] := hw
        subst hp_2
        refine lv_topr (y := onesF (loudF ft d n)) (hlo.1) ?_
        refine lv_iadd hx hb dX4_clank_69 ?_
        refine va_mmin hx hb (by rw [hml]; exact hl.1.symm) hown (hts _ q417) (hts _ ks_J9_min_7cf53) (hts _ km_J9_min_7cf53.1) (hts _ km_J9_min_7cf53.2.1) (Nat.le_of_ble_eq_true rfl) (Nat.le_of_ble_eq_true rfl) (Nat.le_of_ble_eq_true rfl) (Nat.le_of_ble_eq_true rfl) dX4_clank_70 ?_
        refine lv_topr (y := held (d 6 + onesF (loudF ft d n)) 0 99999) (min_held (add_nn b6.1 b6.2 hlo.2.1 hlo.2.2 (by decide) (by decide)) (by decide)) ?_
        refine s_put (v := .int (held (d 6 + onesF (loudF ft d n)) 0 99999)) fb4 cf hw 0 rfl 11 rfl q179 rfl rfl rfl rfl dX4_clank_73 (fun H locs hw => ?_)
        have hw : WD g A s H locs [bO t 4 (tF (lad 0) ad (d 0) (d 9) (d 5) (held (d 6 + onesF (loudF ft d n)) 0 99999) (d 7) (d 1) (d 8)), bI g (ad 1) 10 (col d 0), bI g (ad 2) 10 (col d 1), bI g (ad 3) 10 (col d 2), bI g (ad 4) 10 (col d 3), bI g (ad 5) 10 (hdF ft d n), bI g (ad 6) 3 (rulF d), bI g (ad 7) 3 cn, bO (lad 0) 0 ([.ref (lad 1), .ref (lad 2), .ref (lad 3)]), bR g 4 (lad 1) 14 tr, bI g (lad 2) 6 nm, bI g (lad 3) 96 st_, txb] := hw
        refine lv_aload_n hx hb dX4_clank_76 rfl (lv_at hl 0 rfl) ?_
        refine lv_iload_n hx hb dX4_clank_77 rfl (lv_at hl 1 rfl) ?_
        refine s_put (v := .int (loudF ft d n)) fb4 cf hw 0 rfl 10 rfl q177 rfl rfl rfl rfl dX4_clank_78 (fun H locs hw => ?_)
        have hw : WD g A s H locs [bO t 4 (tF (lad 0) ad (d 0) (d 9) (loudF ft d n) (held (d 6 + onesF (loudF ft d n)) 0 99999) (d 7) (d 1) (d 8)), bI g (ad 1) 10 (col d 0), bI g (ad 2) 10 (col d 1), bI g (ad 3) 10 (col d 2), bI g (ad 4) 10 (col d 3), bI g (ad 5) 10 (hdF ft d n), bI g (ad 6) 3 (rulF d), bI g (ad 7) 3 cn, bO (lad 0) 0 ([.ref (lad 1), .ref (lad 2), .ref (lad 3)]), bR g 4 (lad 1) 14 tr, bI g (lad 2) 6 nm, bI g (lad 3) 96 st_, txb] := hw
        exact s_vret cf hr hlk (nm, st_) (tw_wd (rest := [bO (lad 0) 0 ([.ref (lad 1), .ref (lad 2), .ref (lad 3)]), bR g 4 (lad 1) 14 tr, bI g (lad 2) 6 nm, bI g (lad 3) 96 st_, txb]) (e := roundF ft d) (tw_round hI hn hn10) hw) trivial (Nat.le_of_ble_eq_true rfl) (Nat.le_of_ble_eq_true rfl) dX4_clank_81 hQ
      · have hlt : i < n := by rw [hn] at c9; exact nI_lt_of (by omega) c9 (by omega)
        refine lv_aload_n hx hb dX4_clank_12 rfl (lv_at hl 0 rfl) ?_
        refine lv_iload_n hx hb dX4_clank_13 rfl (lv_at hl 2 rfl) ?_
        refine s_calli (runV cf (x_slack (t := t) (lad := lad) (ad := ad) (d := d) (cn := cn) (nm := nm) (st_ := st_) (tr := tr) (txb := txb) (ft := ft) hF hFo hI i (by omega)) hw [0, 1, 2, 3, 4, 7, 8, 9, 10, 11, 12] (by decide) rfl km_X4_slack ki_X4_slack q485 (run_recv (ci := 4) (T := TX4) (N := 15) hw 0 rfl rfl) rfl rfl hl.1 rfl dX4_clank_14) hw [0, 1, 2, 3, 4, 7, 8, 9, 10, 11, 12] (by decide) rfl (fun _ => rfl) (fun r_6 u_4 H locs hp_5 hw => ?_)
        have hw : WD g A s H locs [bO t 4 (tF (lad 0) ad (d 0) (d 9) (d 5) (d 6) (d 7) (d 1) (d 8)), bI g (ad 1) 10 (col d 0), bI g (ad 2) 10 (col d 1), bI g (ad 3) 10 (col d 2), bI g (ad 4) 10 (col d 3), bI g (ad 5) 10 (hdF ft d i), bI g (ad 6) 3 (rulF d), bI g (ad 7) 3 cn, bO (lad 0) 0 ([.ref (lad 1), .ref (lad 2), .ref (lad 3)]), bR g 4 (lad 1) 14 tr, bI g (lad 2) 6 u_4.1, bI g (lad 3) 96 u_4.2, txb] := hw
        subst hp_5
        refine lv_aload_n hx hb dX4_clank_17 rfl (lv_at hl 0 rfl) ?_
        refine s_get (v := .ref (ad 6)) fb4 cf hw 0 rfl 6 rfl q169 rfl dX4_clank_18 ?_
        refine lv_iconst (v := 0) hx hb dX4_clank_21 (by decide) ?_
        refine s_iald (j := 0) cf hw 6 rfl (rfl) (by decide) rfl dX4_clank_22 ?_
        refine lv_topr (y := d 2) (rfl) ?_
        refine lv_icmp_lt (tgt := 52) hx hb dX4_clank_23 (by decide) (fun c23 => ?_) (fun c23 => ?_)
        · have e1 : loudF ft d (i + 1) = loudF ft d i := by show (loudF ft d i ||| (if d 2 ≤ slackF ft d i then _ else 0)) = _; rw [if_neg (Int32.not_le.mpr c23), Int32.or_zero]
          have e2 : hdF ft d (i + 1) = hdF ft d i := by show (if d 2 ≤ slackF ft d i then _ else hdF ft d i) = _; rw [if_neg (Int32.not_le.mpr c23)]
          have hl : lv_has ls 3 [(0, .ref t), (1, .int (loudF ft d (i + 1))), (2, .int (nI i))] := by rw [e1]; exact hl
          have hw : WD g A s H locs [bO t 4 (tF (lad 0) ad (d 0) (d 9) (d 5) (d 6) (d 7) (d 1) (d 8)), bI g (ad 1) 10 (col d 0), bI g (ad 2) 10 (col d 1), bI g (ad 3) 10 (col d 2), bI g (ad 4) 10 (col d 3), bI g (ad 5) 10 (hdF ft d (i + 1)), bI g (ad 6) 3 (rulF d), bI g (ad 7) 3 cn, bO (lad 0) 0 ([.ref (lad 1), .ref (lad 2), .ref (lad 3)]), bR g 4 (lad 1) 14 tr, bI g (lad 2) 6 u_4.1, bI g (lad 3) 96 u_4.2, txb] := by rw [e2]; exact hw
          refine lv_iinc (v := nI (i + 1)) (lv' := [(2, .int (nI (i + 1))), (0, .ref t), (1, .int (loudF ft d (i + 1)))]) hx hb dX4_clank_52 hl (k := 2) rfl (nI_1 i) (by decide) rfl (fun ls hl => ?_)
          refine lv_goto (tgt := 4) hx hb dX4_clank_55 (by decide) ?_
          exact ih4 (i + 1) u_4.1 u_4.2 (by omega) (by omega) _ _ _ hw (lv_sub hl [1, 2, 0] rfl)
        · refine lv_iload_n hx hb dX4_clank_26 rfl (lv_at hl 1 rfl) ?_
          refine lv_iconst (v := 1) hx hb dX4_clank_27 (by decide) ?_
          refine lv_iload_n hx hb dX4_clank_28 rfl (lv_at hl 2 rfl) ?_
          refine lv_ishl hx hb dX4_clank_29 ?_
          refine lv_ior hx hb dX4_clank_30 ?_
          refine lv_istore_n (lv' := [(1, .int ((loudF ft d i) ||| ((1 : Int32) <<< ((nI i) &&& 31)))), (0, .ref t), (2, .int (nI i))]) hx hb dX4_clank_31 rfl hl (by decide) rfl (fun ls hl => ?_)
          refine lv_aload_n hx hb dX4_clank_32 rfl (lv_at hl 1 rfl) ?_
          refine s_get (v := .ref (ad 5)) fb4 cf hw 0 rfl 5 rfl q166 rfl dX4_clank_33 ?_
          refine lv_iload_n hx hb dX4_clank_36 rfl (lv_at hl 2 rfl) ?_
          refine lv_sipush (v := 9999) hx hb dX4_clank_37 (by decide) ?_
          refine lv_aload_n hx hb dX4_clank_40 rfl (lv_at hl 1 rfl) ?_
          refine s_get (v := .ref (ad 5)) fb4 cf hw 0 rfl 5 rfl q166 rfl dX4_clank_41 ?_
          refine lv_iload_n hx hb dX4_clank_44 rfl (lv_at hl 2 rfl) ?_
          refine s_iald (j := i) cf hw 5 rfl (rfl) (by omega) rfl dX4_clank_45 ?_
          refine lv_iconst (v := 1) hx hb dX4_clank_46 (by decide) ?_
          refine lv_iadd hx hb dX4_clank_47 ?_
          refine va_mmin hx hb (by rw [hml]; exact hl.1.symm) hown (hts _ q417) (hts _ ks_J9_min_7cf53) (hts _ km_J9_min_7cf53.1) (hts _ km_J9_min_7cf53.2.1) (Nat.le_of_ble_eq_true rfl) (Nat.le_of_ble_eq_true rfl) (Nat.le_of_ble_eq_true rfl) (Nat.le_of_ble_eq_true rfl) dX4_clank_48 ?_
          refine s_iast (j := i) cf hw 5 rfl (rfl) (by omega) rfl dX4_clank_51 (fun H locs hw => ?_)
          have hw : WD g A s H locs [bO t 4 (tF (lad 0) ad (d 0) (d 9) (d 5) (d 6) (d 7) (d 1) (d 8)), bI g (ad 1) 10 (col d 0), bI g (ad 2) 10 (col d 1), bI g (ad 3) 10 (col d 2), bI g (ad 4) 10 (col d 3), bI g (ad 5) 10 (upd (hdF ft d i) i (if (((hdF ft d i) i) + 1) < 9999 then (((hdF ft d i) i) + 1) else 9999)), bI g (ad 6) 3 (rulF d), bI g (ad 7) 3 cn, bO (lad 0) 0 ([.ref (lad 1), .ref (lad 2), .ref (lad 3)]), bR g 4 (lad 1) 14 tr, bI g (lad 2) 6 u_4.1, bI g (lad 3) 96 u_4.2, txb] := hw
          have e1 : loudF ft d (i + 1) = loudF ft d i ||| ((1 : Int32) <<< (nI i &&& 31)) := by show (loudF ft d i ||| (if d 2 ≤ slackF ft d i then _ else 0)) = _; rw [if_pos (Int32.not_lt.mp c23)]
          have e2 : hdF ft d (i + 1) = upd (hdF ft d i) i (if (((hdF ft d i) i) + 1) < 9999 then (((hdF ft d i) i) + 1) else 9999) := by show (if d 2 ≤ slackF ft d i then _ else hdF ft d i) = _; rw [if_pos (Int32.not_lt.mp c23)]; rfl
          have hl : lv_has ls 3 [(1, .int (loudF ft d (i + 1))), (0, .ref t), (2, .int (nI i))] := by rw [e1]; exact hl
          have hw : WD g A s H locs [bO t 4 (tF (lad 0) ad (d 0) (d 9) (d 5) (d 6) (d 7) (d 1) (d 8)), bI g (ad 1) 10 (col d 0), bI g (ad 2) 10 (col d 1), bI g (ad 3) 10 (col d 2), bI g (ad 4) 10 (col d 3), bI g (ad 5) 10 (hdF ft d (i + 1)), bI g (ad 6) 3 (rulF d), bI g (ad 7) 3 cn, bO (lad 0) 0 ([.ref (lad 1), .ref (lad 2), .ref (lad 3)]), bR g 4 (lad 1) 14 tr, bI g (lad 2) 6 u_4.1, bI g (lad 3) 96 u_4.2, txb] := by rw [e2]; exact hw
          refine lv_iinc (v := nI (i + 1)) (lv' := [(2, .int (nI (i + 1))), (1, .int (loudF ft d (i + 1))), (0, .ref t)]) hx hb dX4_clank_52 hl (k := 2) rfl (nI_1 i) (by decide) rfl (fun ls hl => ?_)
          refine lv_goto (tgt := 4) hx hb dX4_clank_55 (by decide) ?_
          exact ih4 (i + 1) u_4.1 u_4.2 (by omega) (by omega) _ _ _ hw (lv_sub hl [2, 1, 0] rfl)
  exact L4 (n + 1) 0 nm st_ (by omega) (by omega) _ _ _ hw (lv_sub hl [2, 1, 0] rfl)
set_option maxRecDepth 100000 in
set_option maxHeartbeats 4000000 in
theorem x_burnAndBend {l : Launch} {g : GG} {t : Nat} {lad ad : Nat → Nat} {d cn : DD} (hI : InvH d) {n : Nat} (hn : d 0 = nI n) (hn10 : n ≤ 10) : Ct l g yX4_burnAndBend cX4_burnAndBend 3 (Option.none : Option Jvm.ClassFile.FieldType) 2 0 0 [.ref t] [bO t 4 (tF (lad 0) ad (d 0) (d 9) (d 5) (d 6) (d 7) (d 1) (d 8)), bI g (ad 1) 10 (col d 0), bI g (ad 2) 10 (col d 1), bI g (ad 3) 10 (col d 2), bI g (ad 4) 10 (col d 3), bI g (ad 5) 10 (col d 4), bI g (ad 6) 3 (rulF d), bI g (ad 7) 3 cn] (QV g (fun (_ : Unit) => True) (fun _ => [bO t 4 (tF (lad 0) ad ((itn burnF n d) 0) ((itn burnF n d) 9) ((itn burnF n d) 5) ((itn burnF n d) 6) ((itn burnF n d) 7) ((itn burnF n d) 1) ((itn burnF n d) 8)), bI g (ad 1) 10 (col (itn burnF n d) 0), bI g (ad 2) 10 (col (itn burnF n d) 1), bI g (ad 3) 10 (col (itn burnF n d) 2), bI g (ad 4) 10 (col (itn burnF n d) 3), bI g (ad 5) 10 (col (itn burnF n d) 4), bI g (ad 6) 3 (rulF (itn burnF n d)), bI g (ad 7) 3 cn])) := by
  refine Ct.of (by decide) rfl ?_
  intro p e s m args below meth c A H locs ls Qf cf hr hlk hnm hQ hw hl
  have hx := cf.1
  have hb := cf.2.1
  have hml := cf.2.2.1
  have hown := cf.2.2.2.1
  have hts := cf.2.2.2.2
  have hw : WD g A s H locs [bO t 4 (tF (lad 0) ad (d 0) (d 9) (d 5) (d 6) (d 7) (d 1) (d 8)), bI g (ad 1) 10 (col d 0), bI g (ad 2) 10 (col d 1), bI g (ad 3) 10 (col d 2), bI g (ad 4) 10 (col d 3), bI g (ad 5) 10 (col d 4), bI g (ad 6) 3 (rulF d), bI g (ad 7) 3 cn] := hw
  have hl : lv_has ls 3 [(0, .ref t)] := hl
  refine lv_iconst (v := 0) hx hb dX4_burnAndBend_0 (by decide) ?_
  refine lv_istore_n (lv' := [(1, .int 0), (0, .ref t)]) hx hb dX4_burnAndBend_1 rfl hl (by decide) rfl (fun ls hl => ?_)
  have L2 : ∀ (fu : Nat) (i : Nat), (i ≤ n) → (n < i + fu) → ∀ (H : Heap) (locs : List Loc) (ls : Array Slot), WD g A s H locs [bO t 4 (tF (lad 0) ad ((itn burnF i d) 0) ((itn burnF i d) 9) ((itn burnF i d) 5) ((itn burnF i d) 6) ((itn burnF i d) 7) ((itn burnF i d) 1) ((itn burnF i d) 8)), bI g (ad 1) 10 (col (itn burnF i d) 0), bI g (ad 2) 10 (col (itn burnF i d) 1), bI g (ad 3) 10 (col (itn burnF i d) 2), bI g (ad 4) 10 (col (itn burnF i d) 3), bI g (ad 5) 10 (col (itn burnF i d) 4), bI g (ad 6) 3 (rulF (itn burnF i d)), bI g (ad 7) 3 cn] → lv_has ls 3 [(0, .ref t), (1, .int (nI i))] → W p l e (rmx 2 0 0) s m args below meth c H locs 0 0 Qf (F0 m 2 ls []) := by
    intro fu
    induction fu with
    | zero => intro i hi hfu; exfalso; omega
    | succ fu ih2 =>
      intro i hi hfu H locs ls hw hl
      have b3 : 0 ≤ itn burnF i d (10 + 5 * i + 3) ∧ itn burnF i d (10 + 5 * i + 3) ≤ 99 := inv_at (inv_burn hI) i 3 (by omega)
      have bb := burns_rng (d := itn burnF i d) i
      refine lv_iload_n hx hb dX4_burnAndBend_2 rfl (lv_at hl 1 rfl) ?_
      refine lv_aload_n hx hb dX4_burnAndBend_3 rfl (lv_at hl 0 rfl) ?_
      refine s_get (v := .int ((itn burnF i d) 0)) fb4 cf hw 0 rfl 8 rfl q173 rfl dX4_burnAndBend_4 ?_
      refine lv_icmp_ge (tgt := 61) hx hb dX4_burnAndBend_7 (by decide) (fun c7 => ?_) (fun c7 => ?_)
      · have hi2 : n = i := by rw [burnF_lo (by omega), hn] at c7; have := nI_le_of (by omega) c7 (by omega); omega
        exact s_vret cf hr hlk () (by rw [hi2]; exact hw) trivial (Nat.le_of_ble_eq_true rfl) (Nat.le_of_ble_eq_true rfl) dX4_burnAndBend_61 hQ
      · have hlt : i < n := by rw [burnF_lo (by omega), hn] at c7; exact nI_lt_of (by omega) c7 (by omega)
        refine lv_aload_n hx hb dX4_burnAndBend_10 rfl (lv_at hl 0 rfl) ?_
        refine s_get (v := .ref (ad 2)) fb4 cf hw 0 rfl 2 rfl q158 rfl dX4_burnAndBend_11 ?_
        refine lv_iload_n hx hb dX4_burnAndBend_14 rfl (lv_at hl 1 rfl) ?_
        refine s_iald (j := i) cf hw 2 rfl (rfl) (by omega) rfl dX4_burnAndBend_15 ?_
        refine lv_topr (y := (itn burnF i d) (10 + 5 * i + 1)) (rfl) ?_
        refine lv_aload_n hx hb dX4_burnAndBend_16 rfl (lv_at hl 0 rfl) ?_
        refine lv_iload_n hx hb dX4_burnAndBend_17 rfl (lv_at hl 1 rfl) ?_
        refine s_calli (runV cf (x_bends (cn := cn) (lad := lad) (ad := ad) (d := (itn burnF i d)) (t := t) i (by omega)) hw [0, 1, 4] (by decide) rfl km_X4_bends ki_X4_bends q509 (run_recv (ci := 4) (T := TX4) (N := 15) hw 0 rfl rfl) rfl rfl hl.1 rfl dX4_burnAndBend_18) hw [0, 1, 4] (by decide) rfl (fun _ => rfl) (fun r_3 u_1 H locs hp_2 hw => ?_)
        have hw : WD g A s H locs [bO t 4 (tF (lad 0) ad ((itn burnF i d) 0) ((itn burnF i d) 9) ((itn burnF i d) 5) ((itn burnF i d) 6) ((itn burnF i d) 7) ((itn burnF i d) 1) ((itn burnF i d) 8)), bI g (ad 1) 10 (col (itn burnF i d) 0), bI g (ad 2) 10 (col (itn burnF i d) 1), bI g (ad 3) 10 (col (itn burnF i d) 2), bI g (ad 4) 10 (col (itn burnF i d) 3), bI g (ad 5) 10 (col (itn burnF i d) 4), bI g (ad 6) 3 (rulF (itn burnF i d)), bI g (ad 7) 3 cn] := hw
        subst hp_2
        refine lv_iadd hx hb dX4_burnAndBend_21 ?_
        refine lv_istore_n (lv' := [(2, .int (((itn burnF i d) (10 + 5 * i + 1)) + (bendsF (itn burnF i d) i))), (0, .ref t), (1, .int (nI i))]) hx hb dX4_burnAndBend_22 rfl hl (by decide) rfl (fun ls hl => ?_)
        refine lv_aload_n hx hb dX4_burnAndBend_23 rfl (lv_at hl 1 rfl) ?_
        refine s_get (v := .ref (ad 4)) fb4 cf hw 0 rfl 4 rfl q163 rfl dX4_burnAndBend_24 ?_
        refine lv_iload_n hx hb dX4_burnAndBend_27 rfl (lv_at hl 2 rfl) ?_
        refine lv_iconst (v := 0) hx hb dX4_burnAndBend_28 (by decide) ?_
        refine lv_aload_n hx hb dX4_burnAndBend_29 rfl (lv_at hl 1 rfl) ?_
        refine s_get (v := .ref (ad 4)) fb4 cf hw 0 rfl 4 rfl q163 rfl dX4_burnAndBend_30 ?_
        refine lv_iload_n hx hb dX4_burnAndBend_33 rfl (lv_at hl 2 rfl) ?_
        refine s_iald (j := i) cf hw 4 rfl (rfl) (by omega) rfl dX4_burnAndBend_34 ?_
        refine lv_topr (y := (itn burnF i d) (10 + 5 * i + 3)) (rfl) ?_
        refine lv_aload_n hx hb dX4_burnAndBend_35 rfl (lv_at hl 1 rfl) ?_
        refine lv_iload_n hx hb dX4_burnAndBend_36 rfl (lv_at hl 2 rfl) ?_
        refine s_calli (runV cf (x_burns (cn := cn) (lad := lad) (ad := ad) (d := (itn burnF i d)) (t := t) i (by omega) (inv_burn hI)) hw [0, 1] (by decide) rfl km_X4_burns ki_X4_burns q510 (run_recv (ci := 4) (T := TX4) (N := 15) hw 0 rfl rfl) rfl rfl hl.1 rfl dX4_burnAndBend_37) hw [0, 1] (by decide) rfl (fun _ => rfl) (fun r_6 u_4 H locs hp_5 hw => ?_)
        have hw : WD g A s H locs [bO t 4 (tF (lad 0) ad ((itn burnF i d) 0) ((itn burnF i d) 9) ((itn burnF i d) 5) ((itn burnF i d) 6) ((itn burnF i d) 7) ((itn burnF i d) 1) ((itn burnF i d) 8)), bI g (ad 1) 10 (col (itn burnF i d) 0), bI g (ad 2) 10 (col (itn burnF i d) 1), bI g (ad 3) 10 (col (itn burnF i d) 2), bI g (ad 4) 10 (col (itn burnF i d) 3), bI g (ad 5) 10 (col (itn burnF i d) 4), bI g (ad 6) 3 (rulF (itn burnF i d)), bI g (ad 7) 3 cn] := hw
        subst hp_5
        refine lv_isub hx hb dX4_burnAndBend_40 ?_
        refine va_mmax hx hb (by rw [hml]; exact hl.1.symm) hown (hts _ q406) (hts _ ks_J9_max_7cf53) (hts _ km_J9_max_7cf53.1) (hts _ km_J9_max_7cf53.2.1) (Nat.le_of_ble_eq_true rfl) (Nat.le_of_ble_eq_true rfl) (Nat.le_of_ble_eq_true rfl) (Nat.le_of_ble_eq_true rfl) dX4_burnAndBend_41 ?_
        refine lv_topr (y := held (itn burnF i d (10 + 5 * i + 3) - burnsF (itn burnF i d) i) 0 99) (max_held (sub_le b3.1 b3.2 bb.1 bb.2)) ?_
        refine s_iast (j := i) cf hw 4 rfl (rfl) (by omega) rfl dX4_burnAndBend_44 (fun H locs hw => ?_)
        have hw : WD g A s H locs [bO t 4 (tF (lad 0) ad ((itn burnF i d) 0) ((itn burnF i d) 9) ((itn burnF i d) 5) ((itn burnF i d) 6) ((itn burnF i d) 7) ((itn burnF i d) 1) ((itn burnF i d) 8)), bI g (ad 1) 10 (col (itn burnF i d) 0), bI g (ad 2) 10 (col (itn burnF i d) 1), bI g (ad 3) 10 (col (itn burnF i d) 2), bI g (ad 4) 10 (upd (col (itn burnF i d) 3) i (held (itn burnF i d (10 + 5 * i + 3) - burnsF (itn burnF i d) i) 0 99)), bI g (ad 5) 10 (col (itn burnF i d) 4), bI g (ad 6) 3 (rulF (itn burnF i d)), bI g (ad 7) 3 cn] := hw
        refine lv_aload_n hx hb dX4_burnAndBend_45 rfl (lv_at hl 1 rfl) ?_
        refine s_get (v := .ref (ad 2)) fb4 cf hw 0 rfl 2 rfl q158 rfl dX4_burnAndBend_46 ?_
        refine lv_iload_n hx hb dX4_burnAndBend_49 rfl (lv_at hl 2 rfl) ?_
        refine lv_iload_n hx hb dX4_burnAndBend_50 rfl (lv_at hl 0 rfl) ?_
        refine s_calli (runSN cf (x_held (((itn burnF i d) (10 + 5 * i + 1)) + (bendsF (itn burnF i d) i))) hw [] (by decide) rfl km_X6_heldWithin ks_X6_heldWithin q397 rfl rfl hl.1 rfl dX4_burnAndBend_51) hw [] (by decide) rfl (fun _ => rfl) (fun r_9 u_7 H locs hp_8 hw => ?_)
        have hw : WD g A s H locs [bO t 4 (tF (lad 0) ad ((itn burnF i d) 0) ((itn burnF i d) 9) ((itn burnF i d) 5) ((itn burnF i d) 6) ((itn burnF i d) 7) ((itn burnF i d) 1) ((itn burnF i d) 8)), bI g (ad 1) 10 (col (itn burnF i d) 0), bI g (ad 2) 10 (col (itn burnF i d) 1), bI g (ad 3) 10 (col (itn burnF i d) 2), bI g (ad 4) 10 (upd (col (itn burnF i d) 3) i (held (itn burnF i d (10 + 5 * i + 3) - burnsF (itn burnF i d) i) 0 99)), bI g (ad 5) 10 (col (itn burnF i d) 4), bI g (ad 6) 3 (rulF (itn burnF i d)), bI g (ad 7) 3 cn] := hw
        subst hp_8
        refine s_iast (j := i) cf hw 2 rfl (rfl) (by omega) rfl dX4_burnAndBend_54 (fun H locs hw => ?_)
        have hw : WD g A s H locs [bO t 4 (tF (lad 0) ad ((itn burnF i d) 0) ((itn burnF i d) 9) ((itn burnF i d) 5) ((itn burnF i d) 6) ((itn burnF i d) 7) ((itn burnF i d) 1) ((itn burnF i d) 8)), bI g (ad 1) 10 (col (itn burnF i d) 0), bI g (ad 2) 10 (upd (col (itn burnF i d) 1) i (held (((itn burnF i d) (10 + 5 * i + 1)) + (bendsF (itn burnF i d) i)) 0 99)), bI g (ad 3) 10 (col (itn burnF i d) 2), bI g (ad 4) 10 (upd (col (itn burnF i d) 3) i (held (itn burnF i d (10 + 5 * i + 3) - burnsF (itn burnF i d) i) 0 99)), bI g (ad 5) 10 (col (itn burnF i d) 4), bI g (ad 6) 3 (rulF (itn burnF i d)), bI g (ad 7) 3 cn] := hw
        have he : itn burnF (i + 1) d = burnF i (itn burnF i d) := rfl
        have hw : WD g A s H locs [bO t 4 (tF (lad 0) ad ((itn burnF (i + 1) d) 0) ((itn burnF (i + 1) d) 9) ((itn burnF (i + 1) d) 5) ((itn burnF (i + 1) d) 6) ((itn burnF (i + 1) d) 7) ((itn burnF (i + 1) d) 1) ((itn burnF (i + 1) d) 8)), bI g (ad 1) 10 (col (itn burnF (i + 1) d) 0), bI g (ad 2) 10 (col (itn burnF (i + 1) d) 1), bI g (ad 3) 10 (col (itn burnF (i + 1) d) 2), bI g (ad 4) 10 (col (itn burnF (i + 1) d) 3), bI g (ad 5) 10 (col (itn burnF (i + 1) d) 4), bI g (ad 6) 3 (rulF (itn burnF (i + 1) d)), bI g (ad 7) 3 cn] := by rw [he]; exact tw_wd (rest := []) (e := burnF i (itn burnF i d)) (tw_burn i) hw
        refine lv_iinc (v := nI (i + 1)) (lv' := [(1, .int (nI (i + 1))), (2, .int (((itn burnF i d) (10 + 5 * i + 1)) + (bendsF (itn burnF i d) i))), (0, .ref t)]) hx hb dX4_burnAndBend_55 hl (k := 2) rfl (nI_1 i) (by decide) rfl (fun ls hl => ?_)
        refine lv_goto (tgt := 2) hx hb dX4_burnAndBend_58 (by decide) ?_
        exact ih2 (i + 1) (by omega) (by omega) _ _ _ hw (lv_sub hl [2, 0] rfl)
  exact L2 (n + 1) 0 (by omega) (by omega) _ _ _ hw (lv_sub hl [1, 0] rfl)
set_option maxRecDepth 100000 in
set_option maxHeartbeats 4000000 in
theorem x_tread {l : Launch} {g : GG} {t : Nat} {lad ad : Nat → Nat} {d cn : DD} {n : Nat} (hn : d 0 = nI n) (hn10 : n ≤ 10) : Ct l g yX4_tread cX4_tread 2 (Option.none : Option Jvm.ClassFile.FieldType) 1 0 0 [.ref t] [bO t 4 (tF (lad 0) ad (d 0) (d 9) (d 5) (d 6) (d 7) (d 1) (d 8)), bI g (ad 1) 10 (col d 0), bI g (ad 2) 10 (col d 1), bI g (ad 3) 10 (col d 2), bI g (ad 4) 10 (col d 3), bI g (ad 5) 10 (col d 4), bI g (ad 6) 3 (rulF d), bI g (ad 7) 3 cn] (QV g (fun (_ : Unit) => True) (fun _ => [bO t 4 (tF (lad 0) ad ((treadF d) 0) ((treadF d) 9) ((treadF d) 5) ((treadF d) 6) ((treadF d) 7) ((treadF d) 1) ((treadF d) 8)), bI g (ad 1) 10 (col (treadF d) 0), bI g (ad 2) 10 (col (treadF d) 1), bI g (ad 3) 10 (col (treadF d) 2), bI g (ad 4) 10 (col (treadF d) 3), bI g (ad 5) 10 (col (treadF d) 4), bI g (ad 6) 3 (rulF (treadF d)), bI g (ad 7) 3 cn])) := by
  refine Ct.of (by decide) rfl ?_
  intro p e s m args below meth c A H locs ls Qf cf hr hlk hnm hQ hw hl
  have hx := cf.1
  have hb := cf.2.1
  have hml := cf.2.2.1
  have hown := cf.2.2.2.1
  have hts := cf.2.2.2.2
  have hw : WD g A s H locs [bO t 4 (tF (lad 0) ad (d 0) (d 9) (d 5) (d 6) (d 7) (d 1) (d 8)), bI g (ad 1) 10 (col d 0), bI g (ad 2) 10 (col d 1), bI g (ad 3) 10 (col d 2), bI g (ad 4) 10 (col d 3), bI g (ad 5) 10 (col d 4), bI g (ad 6) 3 (rulF d), bI g (ad 7) 3 cn] := hw
  have hl : lv_has ls 2 [(0, .ref t)] := hl
  have hy0 : drawF d 0 = nI n := by rw [drawF_lo (by omega)]; exact hn
  have hy2 : drawF (drawF d) 0 = nI n := by rw [drawF_lo (by omega)]; exact hy0
  refine lv_aload_n hx hb dX4_tread_0 rfl (lv_at hl 0 rfl) ?_
  refine s_calli (runV cf (x_draw (cn := cn) (t := t) (lad := lad) (ad := ad) (d := d)) hw [0] (by decide) rfl km_X4_draw ki_X4_draw q467 (run_recv (ci := 4) (T := TX4) (N := 15) hw 0 rfl rfl) rfl rfl hl.1 rfl dX4_tread_1) hw [0] (by decide) rfl (fun _ => rfl) (fun r_3 u_1 H locs hp_2 hw => ?_)
  have hw : WD g A s H locs [bO t 4 (tF (lad 0) ad ((drawF d) 0) ((drawF d) 9) ((drawF d) 5) ((drawF d) 6) ((drawF d) 7) ((drawF d) 1) ((drawF d) 8)), bI g (ad 1) 10 (col d 0), bI g (ad 2) 10 (col d 1), bI g (ad 3) 10 (col d 2), bI g (ad 4) 10 (col d 3), bI g (ad 5) 10 (col d 4), bI g (ad 6) 3 (rulF d), bI g (ad 7) 3 cn] := hw
  subst hp_2
  refine lv_bipush (v := 100) hx hb dX4_tread_4 (by decide) ?_
  refine lv_irem hx hb dX4_tread_6 (by decide) ?_
  refine lv_aload_n hx hb dX4_tread_7 rfl (lv_at hl 0 rfl) ?_
  refine s_get (v := .ref (ad 6)) fb4 cf hw 0 rfl 6 rfl q169 rfl dX4_tread_8 ?_
  refine lv_iconst (v := 2) hx hb dX4_tread_11 (by decide) ?_
  refine s_iald (j := 2) cf hw 6 rfl (rfl) (by decide) rfl dX4_tread_12 ?_
  refine lv_topr (y := d 4) (rfl) ?_
  refine lv_icmp_ge (tgt := 46) hx hb dX4_tread_13 (by decide) (fun c13 => ?_) (fun c13 => ?_)
  · exact s_vret cf hr hlk () (by have q : treadF d = drawF d := (by unfold treadF; simp only; rw [if_neg (fun z => Int32.not_le.mpr z.1 c13)]); rw [q]; exact tw_wd (rest := []) (e := drawF d) (tw_lo (by omega) (by omega)) hw) trivial (Nat.le_of_ble_eq_true rfl) (Nat.le_of_ble_eq_true rfl) dX4_tread_46 hQ
  · refine lv_aload_n hx hb dX4_tread_16 rfl (lv_at hl 0 rfl) ?_
    refine s_get (v := .int ((drawF d) 0)) fb4 cf hw 0 rfl 8 rfl q173 rfl dX4_tread_17 ?_
    refine lv_if_le (tgt := 46) hx hb dX4_tread_20 (by decide) (fun c20 => ?_) (fun c20 => ?_)
    · exact s_vret cf hr hlk () (by have q : treadF d = drawF d := (by unfold treadF; simp only; rw [if_neg (fun z => Int32.not_le.mpr z.2 c20)]); rw [q]; exact tw_wd (rest := []) (e := drawF d) (tw_lo (by omega) (by omega)) hw) trivial (Nat.le_of_ble_eq_true rfl) (Nat.le_of_ble_eq_true rfl) dX4_tread_46 hQ
    · have hn0 : 0 < n := by rcases Nat.eq_zero_or_pos n with q | q; exact absurd (by rw [hy0, q]; decide) c20; exact q
      refine lv_aload_n hx hb dX4_tread_23 rfl (lv_at hl 0 rfl) ?_
      refine s_calli (runV cf (x_draw (cn := cn) (t := t) (lad := lad) (ad := ad) (d := (drawF d))) hw [0] (by decide) rfl km_X4_draw ki_X4_draw q467 (run_recv (ci := 4) (T := TX4) (N := 15) hw 0 rfl rfl) rfl rfl hl.1 rfl dX4_tread_24) hw [0] (by decide) rfl (fun _ => rfl) (fun r_6 u_4 H locs hp_5 hw => ?_)
      have hw : WD g A s H locs [bO t 4 (tF (lad 0) ad ((drawF (drawF d)) 0) ((drawF (drawF d)) 9) ((drawF (drawF d)) 5) ((drawF (drawF d)) 6) ((drawF (drawF d)) 7) ((drawF (drawF d)) 1) ((drawF (drawF d)) 8)), bI g (ad 1) 10 (col d 0), bI g (ad 2) 10 (col d 1), bI g (ad 3) 10 (col d 2), bI g (ad 4) 10 (col d 3), bI g (ad 5) 10 (col d 4), bI g (ad 6) 3 (rulF d), bI g (ad 7) 3 cn] := hw
      subst hp_5
      refine lv_aload_n hx hb dX4_tread_27 rfl (lv_at hl 0 rfl) ?_
      refine s_get (v := .int ((drawF (drawF d)) 0)) fb4 cf hw 0 rfl 8 rfl q173 rfl dX4_tread_28 ?_
      refine lv_irem hx hb dX4_tread_31 (by rw [hy2]; exact nI_ne0 hn0 (by omega)) ?_
      obtain ⟨j, hjn, hj⟩ := dw_rem (drawF (drawF d) 8) hn0 (by omega)
      refine lv_topr (y := nI j) (by rw [hy2]; exact hj) ?_
      refine lv_istore_n (lv' := [(1, .int (nI j)), (0, .ref t)]) hx hb dX4_tread_32 rfl hl (by decide) rfl (fun ls hl => ?_)
      refine lv_aload_n hx hb dX4_tread_33 rfl (lv_at hl 1 rfl) ?_
      refine s_get (v := .ref (ad 3)) fb4 cf hw 0 rfl 3 rfl q161 rfl dX4_tread_34 ?_
      refine lv_iload_n hx hb dX4_tread_37 rfl (lv_at hl 0 rfl) ?_
      refine lv_aload_n hx hb dX4_tread_38 rfl (lv_at hl 1 rfl) ?_
      refine s_calli (runV cf (x_draw (cn := cn) (t := t) (lad := lad) (ad := ad) (d := (drawF (drawF d)))) hw [0] (by decide) rfl km_X4_draw ki_X4_draw q467 (run_recv (ci := 4) (T := TX4) (N := 15) hw 0 rfl rfl) rfl rfl hl.1 rfl dX4_tread_39) hw [0] (by decide) rfl (fun _ => rfl) (fun r_9 u_7 H locs hp_8 hw => ?_)
      have hw : WD g A s H locs [bO t 4 (tF (lad 0) ad ((drawF (drawF (drawF d))) 0) ((drawF (drawF (drawF d))) 9) ((drawF (drawF (drawF d))) 5) ((drawF (drawF (drawF d))) 6) ((drawF (drawF (drawF d))) 7) ((drawF (drawF (drawF d))) 1) ((drawF (drawF (drawF d))) 8)), bI g (ad 1) 10 (col d 0), bI g (ad 2) 10 (col d 1), bI g (ad 3) 10 (col d 2), bI g (ad 4) 10 (col d 3), bI g (ad 5) 10 (col d 4), bI g (ad 6) 3 (rulF d), bI g (ad 7) 3 cn] := hw
      subst hp_8
      refine lv_bipush (v := 100) hx hb dX4_tread_42 (by decide) ?_
      refine lv_irem hx hb dX4_tread_44 (by decide) ?_
      refine s_iast (j := j) cf hw 3 rfl (rfl) (by omega) rfl dX4_tread_45 (fun H locs hw => ?_)
      have hw : WD g A s H locs [bO t 4 (tF (lad 0) ad ((drawF (drawF (drawF d))) 0) ((drawF (drawF (drawF d))) 9) ((drawF (drawF (drawF d))) 5) ((drawF (drawF (drawF d))) 6) ((drawF (drawF (drawF d))) 7) ((drawF (drawF (drawF d))) 1) ((drawF (drawF (drawF d))) 8)), bI g (ad 1) 10 (col d 0), bI g (ad 2) 10 (col d 1), bI g (ad 3) 10 (upd (col d 2) j ((dwF (drawF (drawF (drawF d)) 8)) - (dwF (drawF (drawF (drawF d)) 8)) / 100 * 100)), bI g (ad 4) 10 (col d 3), bI g (ad 5) 10 (col d 4), bI g (ad 6) 3 (rulF d), bI g (ad 7) 3 cn] := hw
      exact s_vret cf hr hlk () (by have q : treadF d = upd (drawF (drawF (drawF d))) (10 + 5 * j + 2) (remF (dwF (drawF (drawF (drawF d)) 8)) 100) := (by unfold treadF; simp only; rw [if_pos ⟨Int32.not_le.mp c13, Int32.not_le.mp c20⟩, hy0, hj, nI_clamp (by omega)]); rw [q]; exact tw_wd (rest := []) (e := upd (drawF (drawF (drawF d))) (10 + 5 * j + 2) (remF (dwF (drawF (drawF (drawF d)) 8)) 100)) (tw_tr j _) hw) trivial (Nat.le_of_ble_eq_true rfl) (Nat.le_of_ble_eq_true rfl) dX4_tread_46 hQ
set_option maxRecDepth 100000 in
set_option maxHeartbeats 4000000 in
theorem x_pass {l : Launch} {g : GG} {t : Nat} {lad ad : Nat → Nat} {d cn : DD} {nm st_ : DD} {tr : Nat → Option Nat} {txb : va_W} {ft : TXC} (hF : FitAt g tr txb (cn 0) ft) (hFo : okF ft) (hI : InvH d) {ni : Nat} (hni : d 1 = nI ni) (N : Nat) (hni2 : ni + N < 1000000) : Ct l g yX4_pass cX4_pass 3 (Option.none : Option Jvm.ClassFile.FieldType) 5 0 0 [.ref t, .int (nI N)] [bO t 4 (tF (lad 0) ad (d 0) (d 9) (d 5) (d 6) (d 7) (d 1) (d 8)), bI g (ad 1) 10 (col d 0), bI g (ad 2) 10 (col d 1), bI g (ad 3) 10 (col d 2), bI g (ad 4) 10 (col d 3), bI g (ad 5) 10 (col d 4), bI g (ad 6) 3 (rulF d), bI g (ad 7) 3 cn, bO (lad 0) 0 ([.ref (lad 1), .ref (lad 2), .ref (lad 3)]), bR g 4 (lad 1) 14 tr, bI g (lad 2) 6 nm, bI g (lad 3) 96 st_, txb] (QV g (fun (_ : DD × DD) => True) (fun u => [bO t 4 (tF (lad 0) ad ((nightsF ft N d) 0) ((nightsF ft N d) 9) ((nightsF ft N d) 5) ((nightsF ft N d) 6) ((nightsF ft N d) 7) ((nightsF ft N d) 1) ((nightsF ft N d) 8)), bI g (ad 1) 10 (col (nightsF ft N d) 0), bI g (ad 2) 10 (col (nightsF ft N d) 1), bI g (ad 3) 10 (col (nightsF ft N d) 2), bI g (ad 4) 10 (col (nightsF ft N d) 3), bI g (ad 5) 10 (col (nightsF ft N d) 4), bI g (ad 6) 3 (rulF (nightsF ft N d)), bI g (ad 7) 3 cn, bO (lad 0) 0 ([.ref (lad 1), .ref (lad 2), .ref (lad 3)]), bR g 4 (lad 1) 14 tr, bI g (lad 2) 6 u.1, bI g (lad 3) 96 u.2, txb])) := by
  refine Ct.of (by decide) rfl ?_
  intro p e s m args below meth c A H locs ls Qf cf hr hlk hnm hQ hw hl
  have hx := cf.1
  have hb := cf.2.1
  have hml := cf.2.2.1
  have hown := cf.2.2.2.1
  have hts := cf.2.2.2.2
  have hw : WD g A s H locs [bO t 4 (tF (lad 0) ad (d 0) (d 9) (d 5) (d 6) (d 7) (d 1) (d 8)), bI g (ad 1) 10 (col d 0), bI g (ad 2) 10 (col d 1), bI g (ad 3) 10 (col d 2), bI g (ad 4) 10 (col d 3), bI g (ad 5) 10 (col d 4), bI g (ad 6) 3 (rulF d), bI g (ad 7) 3 cn, bO (lad 0) 0 ([.ref (lad 1), .ref (lad 2), .ref (lad 3)]), bR g 4 (lad 1) 14 tr, bI g (lad 2) 6 nm, bI g (lad 3) 96 st_, txb] := hw
  have hl : lv_has ls 3 [(0, .ref t), (1, .int (nI N))] := hl
  obtain ⟨n, hn10, hn⟩ := inv_n hI
  refine lv_iconst (v := 0) hx hb dX4_pass_0 (by decide) ?_
  refine lv_istore_n (lv' := [(2, .int 0), (0, .ref t), (1, .int (nI N))]) hx hb dX4_pass_1 rfl hl (by decide) rfl (fun ls hl => ?_)
  have L2 : ∀ (fu : Nat) (k : Nat) (nm st_ : DD), (k ≤ N) → (N < k + fu) → ∀ (H : Heap) (locs : List Loc) (ls : Array Slot), WD g A s H locs [bO t 4 (tF (lad 0) ad ((nightsF ft k d) 0) ((nightsF ft k d) 9) ((nightsF ft k d) 5) ((nightsF ft k d) 6) ((nightsF ft k d) 7) ((nightsF ft k d) 1) ((nightsF ft k d) 8)), bI g (ad 1) 10 (col (nightsF ft k d) 0), bI g (ad 2) 10 (col (nightsF ft k d) 1), bI g (ad 3) 10 (col (nightsF ft k d) 2), bI g (ad 4) 10 (col (nightsF ft k d) 3), bI g (ad 5) 10 (col (nightsF ft k d) 4), bI g (ad 6) 3 (rulF (nightsF ft k d)), bI g (ad 7) 3 cn, bO (lad 0) 0 ([.ref (lad 1), .ref (lad 2), .ref (lad 3)]), bR g 4 (lad 1) 14 tr, bI g (lad 2) 6 nm, bI g (lad 3) 96 st_, txb] → lv_has ls 3 [(0, .ref t), (1, .int (nI N)), (2, .int (nI k))] → W p l e (rmx 5 0 0) s m args below meth c H locs 0 0 Qf (F0 m 2 ls []) := by
    intro fu
    induction fu with
    | zero => intro k nm st_ hk hfu; exfalso; omega
    | succ fu ih2 =>
      intro k nm st_ hk hfu H locs ls hw hl
      have hnk : nightsF ft k d 0 = nI n := by rw [nightsF_lo (by omega) (by omega) (by omega) (by omega) (by omega) (by omega)]; exact hn
      have hnik := nightsF_1 (ft := ft) hni k
      have hne : (roundF ft (nightsF ft k d)) 0 = nI n := by rw [roundF_lo (by omega) (by omega) (by omega)]; exact hnk
      have hni1 : (roundF ft (nightsF ft k d)) 1 = nI (ni + k) := by rw [roundF_lo (by omega) (by omega) (by omega)]; exact hnik
      refine lv_iload_n hx hb dX4_pass_2 rfl (lv_at hl 2 rfl) ?_
      refine lv_iload_n hx hb dX4_pass_3 rfl (lv_at hl 1 rfl) ?_
      refine lv_icmp_ge (tgt := 56) hx hb dX4_pass_4 (by decide) (fun c4 => ?_) (fun c4 => ?_)
      · have hi2 : N = k := by have := nI_le_of (by omega) c4 (by omega); omega
        exact s_vret cf hr hlk (nm, st_) (by rw [hi2]; exact hw) trivial (Nat.le_of_ble_eq_true rfl) (Nat.le_of_ble_eq_true rfl) dX4_pass_56 hQ
      · have hlt : k < N := nI_lt_of (by omega) c4 (by omega)
        refine lv_aload_n hx hb dX4_pass_7 rfl (lv_at hl 0 rfl) ?_
        refine s_callv (runV cf (x_clank (t := t) (lad := lad) (ad := ad) (d := (nightsF ft k d)) (cn := cn) (nm := nm) (st_ := st_) (tr := tr) (txb := txb) (ft := ft) hF hFo (inv_nights hI)) hw [0, 1, 2, 3, 4, 5, 6, 7, 8, 9, 10, 11, 12] (by decide) rfl km_X4_clank ki_X4_clank q503 (run_recv (ci := 4) (T := TX4) (N := 15) hw 0 rfl rfl) rfl rfl hl.1 rfl dX4_pass_8) hw [0, 1, 2, 3, 4, 5, 6, 7, 8, 9, 10, 11, 12] (by decide) rfl (fun _ => rfl) (fun u_1 H locs hp_2 hw => ?_)
        have hw : WD g A s H locs [bO t 4 (tF (lad 0) ad ((roundF ft (nightsF ft k d)) 0) ((roundF ft (nightsF ft k d)) 9) ((roundF ft (nightsF ft k d)) 5) ((roundF ft (nightsF ft k d)) 6) ((roundF ft (nightsF ft k d)) 7) ((roundF ft (nightsF ft k d)) 1) ((roundF ft (nightsF ft k d)) 8)), bI g (ad 1) 10 (col (roundF ft (nightsF ft k d)) 0), bI g (ad 2) 10 (col (roundF ft (nightsF ft k d)) 1), bI g (ad 3) 10 (col (roundF ft (nightsF ft k d)) 2), bI g (ad 4) 10 (col (roundF ft (nightsF ft k d)) 3), bI g (ad 5) 10 (col (roundF ft (nightsF ft k d)) 4), bI g (ad 6) 3 (rulF (roundF ft (nightsF ft k d))), bI g (ad 7) 3 cn, bO (lad 0) 0 ([.ref (lad 1), .ref (lad 2), .ref (lad 3)]), bR g 4 (lad 1) 14 tr, bI g (lad 2) 6 u_1.1, bI g (lad 3) 96 u_1.2, txb] := hw
        refine lv_aload_n hx hb dX4_pass_11 rfl (lv_at hl 0 rfl) ?_
        refine s_get (v := .int ((roundF ft (nightsF ft k d)) 0)) fb4 cf hw 0 rfl 8 rfl q173 rfl dX4_pass_12 ?_
        refine lv_topr (y := nI n) (hne) ?_
        refine lv_if_le (tgt := 32) hx hb dX4_pass_15 (by decide) (fun c15 => ?_) (fun c15 => ?_)
        · have hn0 : ¬ 0 < n := fun q => nI_nle q (by omega) c15
          have hw : WD g A s H locs [bO t 4 (tF (lad 0) ad ((if 0 < n then deliverF ft (roundF ft (nightsF ft k d)) ((ni + k) % n) else (roundF ft (nightsF ft k d))) 0) ((if 0 < n then deliverF ft (roundF ft (nightsF ft k d)) ((ni + k) % n) else (roundF ft (nightsF ft k d))) 9) ((if 0 < n then deliverF ft (roundF ft (nightsF ft k d)) ((ni + k) % n) else (roundF ft (nightsF ft k d))) 5) ((if 0 < n then deliverF ft (roundF ft (nightsF ft k d)) ((ni + k) % n) else (roundF ft (nightsF ft k d))) 6) ((if 0 < n then deliverF ft (roundF ft (nightsF ft k d)) ((ni + k) % n) else (roundF ft (nightsF ft k d))) 7) ((if 0 < n then deliverF ft (roundF ft (nightsF ft k d)) ((ni + k) % n) else (roundF ft (nightsF ft k d))) 1) ((if 0 < n then deliverF ft (roundF ft (nightsF ft k d)) ((ni + k) % n) else (roundF ft (nightsF ft k d))) 8)), bI g (ad 1) 10 (col (if 0 < n then deliverF ft (roundF ft (nightsF ft k d)) ((ni + k) % n) else (roundF ft (nightsF ft k d))) 0), bI g (ad 2) 10 (col (if 0 < n then deliverF ft (roundF ft (nightsF ft k d)) ((ni + k) % n) else (roundF ft (nightsF ft k d))) 1), bI g (ad 3) 10 (col (if 0 < n then deliverF ft (roundF ft (nightsF ft k d)) ((ni + k) % n) else (roundF ft (nightsF ft k d))) 2), bI g (ad 4) 10 (col (if 0 < n then deliverF ft (roundF ft (nightsF ft k d)) ((ni + k) % n) else (roundF ft (nightsF ft k d))) 3), bI g (ad 5) 10 (col (if 0 < n then deliverF ft (roundF ft (nightsF ft k d)) ((ni + k) % n) else (roundF ft (nightsF ft k d))) 4), bI g (ad 6) 3 (rulF (if 0 < n then deliverF ft (roundF ft (nightsF ft k d)) ((ni + k) % n) else (roundF ft (nightsF ft k d)))), bI g (ad 7) 3 cn, bO (lad 0) 0 ([.ref (lad 1), .ref (lad 2), .ref (lad 3)]), bR g 4 (lad 1) 14 tr, bI g (lad 2) 6 u_1.1, bI g (lad 3) 96 u_1.2, txb] := by rw [show (if 0 < n then deliverF ft (roundF ft (nightsF ft k d)) ((ni + k) % n) else (roundF ft (nightsF ft k d))) = _ from if_neg hn0]; exact hw
          have hI1 : InvH (if 0 < n then deliverF ft (roundF ft (nightsF ft k d)) ((ni + k) % n) else (roundF ft (nightsF ft k d))) := by rcases Nat.lt_or_ge 0 n with q | q; rw [if_pos q]; exact inv_deliver (inv_round (inv_nights hI)); rw [if_neg (by omega)]; exact inv_round (inv_nights hI)
          have hn1 : (if 0 < n then deliverF ft (roundF ft (nightsF ft k d)) ((ni + k) % n) else (roundF ft (nightsF ft k d))) 0 = nI n := by rcases Nat.lt_or_ge 0 n with q | q; rw [if_pos q, deliverF_lo (by omega) (by omega)]; exact hne; rw [if_neg (by omega)]; exact hne
          have hn2 : (itn burnF n (if 0 < n then deliverF ft (roundF ft (nightsF ft k d)) ((ni + k) % n) else (roundF ft (nightsF ft k d)))) 0 = nI n := by rw [burnF_lo (by omega)]; exact hn1
          refine lv_aload_n hx hb dX4_pass_32 rfl (lv_at hl 0 rfl) ?_
          refine s_callv (runV cf (x_burnAndBend (t := t) (lad := lad) (ad := ad) (d := (if 0 < n then deliverF ft (roundF ft (nightsF ft k d)) ((ni + k) % n) else (roundF ft (nightsF ft k d)))) (cn := cn) hI1 (n := n) hn1 hn10) hw [0, 1, 2, 3, 4, 5, 6, 7] (by decide) rfl km_X4_burnAndBend ki_X4_burnAndBend q505 (run_recv (ci := 4) (T := TX4) (N := 15) hw 0 rfl rfl) rfl rfl hl.1 rfl dX4_pass_33) hw [0, 1, 2, 3, 4, 5, 6, 7] (by decide) rfl (fun _ => rfl) (fun u_3 H locs hp_4 hw => ?_)
          have hw : WD g A s H locs [bO t 4 (tF (lad 0) ad ((itn burnF n (if 0 < n then deliverF ft (roundF ft (nightsF ft k d)) ((ni + k) % n) else (roundF ft (nightsF ft k d)))) 0) ((itn burnF n (if 0 < n then deliverF ft (roundF ft (nightsF ft k d)) ((ni + k) % n) else (roundF ft (nightsF ft k d)))) 9) ((itn burnF n (if 0 < n then deliverF ft (roundF ft (nightsF ft k d)) ((ni + k) % n) else (roundF ft (nightsF ft k d)))) 5) ((itn burnF n (if 0 < n then deliverF ft (roundF ft (nightsF ft k d)) ((ni + k) % n) else (roundF ft (nightsF ft k d)))) 6) ((itn burnF n (if 0 < n then deliverF ft (roundF ft (nightsF ft k d)) ((ni + k) % n) else (roundF ft (nightsF ft k d)))) 7) ((itn burnF n (if 0 < n then deliverF ft (roundF ft (nightsF ft k d)) ((ni + k) % n) else (roundF ft (nightsF ft k d)))) 1) ((itn burnF n (if 0 < n then deliverF ft (roundF ft (nightsF ft k d)) ((ni + k) % n) else (roundF ft (nightsF ft k d)))) 8)), bI g (ad 1) 10 (col (itn burnF n (if 0 < n then deliverF ft (roundF ft (nightsF ft k d)) ((ni + k) % n) else (roundF ft (nightsF ft k d)))) 0), bI g (ad 2) 10 (col (itn burnF n (if 0 < n then deliverF ft (roundF ft (nightsF ft k d)) ((ni + k) % n) else (roundF ft (nightsF ft k d)))) 1), bI g (ad 3) 10 (col (itn burnF n (if 0 < n then deliverF ft (roundF ft (nightsF ft k d)) ((ni + k) % n) else (roundF ft (nightsF ft k d)))) 2), bI g (ad 4) 10 (col (itn burnF n (if 0 < n then deliverF ft (roundF ft (nightsF ft k d)) ((ni + k) % n) else (roundF ft (nightsF ft k d)))) 3), bI g (ad 5) 10 (col (itn burnF n (if 0 < n then deliverF ft (roundF ft (nightsF ft k d)) ((ni + k) % n) else (roundF ft (nightsF ft k d)))) 4), bI g (ad 6) 3 (rulF (itn burnF n (if 0 < n then deliverF ft (roundF ft (nightsF ft k d)) ((ni + k) % n) else (roundF ft (nightsF ft k d))))), bI g (ad 7) 3 cn, bO (lad 0) 0 ([.ref (lad 1), .ref (lad 2), .ref (lad 3)]), bR g 4 (lad 1) 14 tr, bI g (lad 2) 6 u_1.1, bI g (lad 3) 96 u_1.2, txb] := hw
          refine lv_aload_n hx hb dX4_pass_36 rfl (lv_at hl 0 rfl) ?_
          refine s_callv (runV cf (x_tread (t := t) (lad := lad) (ad := ad) (d := (itn burnF n (if 0 < n then deliverF ft (roundF ft (nightsF ft k d)) ((ni + k) % n) else (roundF ft (nightsF ft k d))))) (cn := cn) (n := n) hn2 hn10) hw [0, 1, 2, 3, 4, 5, 6, 7] (by decide) rfl km_X4_tread ki_X4_tread q511 (run_recv (ci := 4) (T := TX4) (N := 15) hw 0 rfl rfl) rfl rfl hl.1 rfl dX4_pass_37) hw [0, 1, 2, 3, 4, 5, 6, 7] (by decide) rfl (fun _ => rfl) (fun u_5 H locs hp_6 hw => ?_)
          have hw : WD g A s H locs [bO t 4 (tF (lad 0) ad ((treadF (itn burnF n (if 0 < n then deliverF ft (roundF ft (nightsF ft k d)) ((ni + k) % n) else (roundF ft (nightsF ft k d))))) 0) ((treadF (itn burnF n (if 0 < n then deliverF ft (roundF ft (nightsF ft k d)) ((ni + k) % n) else (roundF ft (nightsF ft k d))))) 9) ((treadF (itn burnF n (if 0 < n then deliverF ft (roundF ft (nightsF ft k d)) ((ni + k) % n) else (roundF ft (nightsF ft k d))))) 5) ((treadF (itn burnF n (if 0 < n then deliverF ft (roundF ft (nightsF ft k d)) ((ni + k) % n) else (roundF ft (nightsF ft k d))))) 6) ((treadF (itn burnF n (if 0 < n then deliverF ft (roundF ft (nightsF ft k d)) ((ni + k) % n) else (roundF ft (nightsF ft k d))))) 7) ((treadF (itn burnF n (if 0 < n then deliverF ft (roundF ft (nightsF ft k d)) ((ni + k) % n) else (roundF ft (nightsF ft k d))))) 1) ((treadF (itn burnF n (if 0 < n then deliverF ft (roundF ft (nightsF ft k d)) ((ni + k) % n) else (roundF ft (nightsF ft k d))))) 8)), bI g (ad 1) 10 (col (treadF (itn burnF n (if 0 < n then deliverF ft (roundF ft (nightsF ft k d)) ((ni + k) % n) else (roundF ft (nightsF ft k d))))) 0), bI g (ad 2) 10 (col (treadF (itn burnF n (if 0 < n then deliverF ft (roundF ft (nightsF ft k d)) ((ni + k) % n) else (roundF ft (nightsF ft k d))))) 1), bI g (ad 3) 10 (col (treadF (itn burnF n (if 0 < n then deliverF ft (roundF ft (nightsF ft k d)) ((ni + k) % n) else (roundF ft (nightsF ft k d))))) 2), bI g (ad 4) 10 (col (treadF (itn burnF n (if 0 < n then deliverF ft (roundF ft (nightsF ft k d)) ((ni + k) % n) else (roundF ft (nightsF ft k d))))) 3), bI g (ad 5) 10 (col (treadF (itn burnF n (if 0 < n then deliverF ft (roundF ft (nightsF ft k d)) ((ni + k) % n) else (roundF ft (nightsF ft k d))))) 4), bI g (ad 6) 3 (rulF (treadF (itn burnF n (if 0 < n then deliverF ft (roundF ft (nightsF ft k d)) ((ni + k) % n) else (roundF ft (nightsF ft k d)))))), bI g (ad 7) 3 cn, bO (lad 0) 0 ([.ref (lad 1), .ref (lad 2), .ref (lad 3)]), bR g 4 (lad 1) 14 tr, bI g (lad 2) 6 u_1.1, bI g (lad 3) 96 u_1.2, txb] := hw
          refine lv_aload_n hx hb dX4_pass_40 rfl (lv_at hl 0 rfl) ?_
          refine lv_dup hx hb dX4_pass_41 rfl ?_
          refine s_get (v := .int ((treadF (itn burnF n (if 0 < n then deliverF ft (roundF ft (nightsF ft k d)) ((ni + k) % n) else (roundF ft (nightsF ft k d))))) 1)) fb4 cf hw 0 rfl 13 rfl q182 rfl dX4_pass_42 ?_
          refine lv_iconst (v := 1) hx hb dX4_pass_45 (by decide) ?_
          refine lv_iadd hx hb dX4_pass_46 ?_
          refine s_put (v := .int (((treadF (itn burnF n (if 0 < n then deliverF ft (roundF ft (nightsF ft k d)) ((ni + k) % n) else (roundF ft (nightsF ft k d))))) 1) + 1)) fb4 cf hw 0 rfl 13 rfl q182 rfl rfl rfl rfl dX4_pass_47 (fun H locs hw => ?_)
          have hw : WD g A s H locs [bO t 4 (tF (lad 0) ad ((treadF (itn burnF n (if 0 < n then deliverF ft (roundF ft (nightsF ft k d)) ((ni + k) % n) else (roundF ft (nightsF ft k d))))) 0) ((treadF (itn burnF n (if 0 < n then deliverF ft (roundF ft (nightsF ft k d)) ((ni + k) % n) else (roundF ft (nightsF ft k d))))) 9) ((treadF (itn burnF n (if 0 < n then deliverF ft (roundF ft (nightsF ft k d)) ((ni + k) % n) else (roundF ft (nightsF ft k d))))) 5) ((treadF (itn burnF n (if 0 < n then deliverF ft (roundF ft (nightsF ft k d)) ((ni + k) % n) else (roundF ft (nightsF ft k d))))) 6) ((treadF (itn burnF n (if 0 < n then deliverF ft (roundF ft (nightsF ft k d)) ((ni + k) % n) else (roundF ft (nightsF ft k d))))) 7) (((treadF (itn burnF n (if 0 < n then deliverF ft (roundF ft (nightsF ft k d)) ((ni + k) % n) else (roundF ft (nightsF ft k d))))) 1) + 1) ((treadF (itn burnF n (if 0 < n then deliverF ft (roundF ft (nightsF ft k d)) ((ni + k) % n) else (roundF ft (nightsF ft k d))))) 8)), bI g (ad 1) 10 (col (treadF (itn burnF n (if 0 < n then deliverF ft (roundF ft (nightsF ft k d)) ((ni + k) % n) else (roundF ft (nightsF ft k d))))) 0), bI g (ad 2) 10 (col (treadF (itn burnF n (if 0 < n then deliverF ft (roundF ft (nightsF ft k d)) ((ni + k) % n) else (roundF ft (nightsF ft k d))))) 1), bI g (ad 3) 10 (col (treadF (itn burnF n (if 0 < n then deliverF ft (roundF ft (nightsF ft k d)) ((ni + k) % n) else (roundF ft (nightsF ft k d))))) 2), bI g (ad 4) 10 (col (treadF (itn burnF n (if 0 < n then deliverF ft (roundF ft (nightsF ft k d)) ((ni + k) % n) else (roundF ft (nightsF ft k d))))) 3), bI g (ad 5) 10 (col (treadF (itn burnF n (if 0 < n then deliverF ft (roundF ft (nightsF ft k d)) ((ni + k) % n) else (roundF ft (nightsF ft k d))))) 4), bI g (ad 6) 3 (rulF (treadF (itn burnF n (if 0 < n then deliverF ft (roundF ft (nightsF ft k d)) ((ni + k) % n) else (roundF ft (nightsF ft k d)))))), bI g (ad 7) 3 cn, bO (lad 0) 0 ([.ref (lad 1), .ref (lad 2), .ref (lad 3)]), bR g 4 (lad 1) 14 tr, bI g (lad 2) 6 u_1.1, bI g (lad 3) 96 u_1.2, txb] := hw
          have he : nightsF ft (k + 1) d = upd (treadF (itn burnF n (if 0 < n then deliverF ft (roundF ft (nightsF ft k d)) ((ni + k) % n) else (roundF ft (nightsF ft k d))))) 1 (treadF (itn burnF n (if 0 < n then deliverF ft (roundF ft (nightsF ft k d)) ((ni + k) % n) else (roundF ft (nightsF ft k d)))) 1 + 1) := nightF_eq hnk hn10 hnik (by omega)
          have hw : WD g A s H locs [bO t 4 (tF (lad 0) ad ((nightsF ft (k + 1) d) 0) ((nightsF ft (k + 1) d) 9) ((nightsF ft (k + 1) d) 5) ((nightsF ft (k + 1) d) 6) ((nightsF ft (k + 1) d) 7) ((nightsF ft (k + 1) d) 1) ((nightsF ft (k + 1) d) 8)), bI g (ad 1) 10 (col (nightsF ft (k + 1) d) 0), bI g (ad 2) 10 (col (nightsF ft (k + 1) d) 1), bI g (ad 3) 10 (col (nightsF ft (k + 1) d) 2), bI g (ad 4) 10 (col (nightsF ft (k + 1) d) 3), bI g (ad 5) 10 (col (nightsF ft (k + 1) d) 4), bI g (ad 6) 3 (rulF (nightsF ft (k + 1) d)), bI g (ad 7) 3 cn, bO (lad 0) 0 ([.ref (lad 1), .ref (lad 2), .ref (lad 3)]), bR g 4 (lad 1) 14 tr, bI g (lad 2) 6 u_1.1, bI g (lad 3) 96 u_1.2, txb] := by rw [he]; exact tw_wd (rest := [bO (lad 0) 0 ([.ref (lad 1), .ref (lad 2), .ref (lad 3)]), bR g 4 (lad 1) 14 tr, bI g (lad 2) 6 u_1.1, bI g (lad 3) 96 u_1.2, txb]) (e := upd (treadF (itn burnF n (if 0 < n then deliverF ft (roundF ft (nightsF ft k d)) ((ni + k) % n) else (roundF ft (nightsF ft k d))))) 1 (treadF (itn burnF n (if 0 < n then deliverF ft (roundF ft (nightsF ft k d)) ((ni + k) % n) else (roundF ft (nightsF ft k d)))) 1 + 1)) (tw_lo (by omega) (by omega)) hw
          refine lv_iinc (v := nI (k + 1)) (lv' := [(2, .int (nI (k + 1))), (0, .ref t), (1, .int (nI N))]) hx hb dX4_pass_50 hl (k := 2) rfl (nI_1 k) (by decide) rfl (fun ls hl => ?_)
          refine lv_goto (tgt := 2) hx hb dX4_pass_53 (by decide) ?_
          exact ih2 (k + 1) u_1.1 u_1.2 (by omega) (by omega) _ _ _ hw (lv_sub hl [1, 2, 0] rfl)
        · have hn0 : 0 < n := by rcases Nat.eq_zero_or_pos n with q | q; exact absurd (by rw [q]; decide) c15; exact q
          refine lv_aload_n hx hb dX4_pass_18 rfl (lv_at hl 0 rfl) ?_
          refine lv_aload_n hx hb dX4_pass_19 rfl (lv_at hl 0 rfl) ?_
          refine s_get (v := .int ((roundF ft (nightsF ft k d)) 1)) fb4 cf hw 0 rfl 13 rfl q182 rfl dX4_pass_20 ?_
          refine lv_aload_n hx hb dX4_pass_23 rfl (lv_at hl 0 rfl) ?_
          refine s_get (v := .int ((roundF ft (nightsF ft k d)) 0)) fb4 cf hw 0 rfl 8 rfl q173 rfl dX4_pass_24 ?_
          refine lv_irem hx hb dX4_pass_27 (by rw [hne]; exact nI_ne0 hn0 (by omega)) ?_
          have hmod := Nat.mod_lt (ni + k) hn0
          refine lv_topr (y := nI ((ni + k) % n)) (by rw [hni1, hne]; exact rem_nat (by omega) hn0 (by omega)) ?_
          refine s_calli (runV cf (x_deliver (t := t) (lad := lad) (ad := ad) (d := (roundF ft (nightsF ft k d))) (cn := cn) (nm := u_1.1) (st_ := u_1.2) (tr := tr) (txb := txb) (ft := ft) hF hFo (inv_round (inv_nights hI)) ((ni + k) % n) (by omega)) hw [0, 1, 2, 3, 4, 5, 6, 7, 8, 9, 10, 11, 12] (by decide) rfl km_X4_deliver ki_X4_deliver q504 (run_recv (ci := 4) (T := TX4) (N := 15) hw 0 rfl rfl) rfl rfl hl.1 rfl dX4_pass_28) hw [0, 1, 2, 3, 4, 5, 6, 7, 8, 9, 10, 11, 12] (by decide) rfl (fun _ => rfl) (fun r_9 u_7 H locs hp_8 hw => ?_)
          have hw : WD g A s H locs [bO t 4 (tF (lad 0) ad ((deliverF ft (roundF ft (nightsF ft k d)) ((ni + k) % n)) 0) ((deliverF ft (roundF ft (nightsF ft k d)) ((ni + k) % n)) 9) ((deliverF ft (roundF ft (nightsF ft k d)) ((ni + k) % n)) 5) ((deliverF ft (roundF ft (nightsF ft k d)) ((ni + k) % n)) 6) ((deliverF ft (roundF ft (nightsF ft k d)) ((ni + k) % n)) 7) ((deliverF ft (roundF ft (nightsF ft k d)) ((ni + k) % n)) 1) ((deliverF ft (roundF ft (nightsF ft k d)) ((ni + k) % n)) 8)), bI g (ad 1) 10 (col (deliverF ft (roundF ft (nightsF ft k d)) ((ni + k) % n)) 0), bI g (ad 2) 10 (col (deliverF ft (roundF ft (nightsF ft k d)) ((ni + k) % n)) 1), bI g (ad 3) 10 (col (deliverF ft (roundF ft (nightsF ft k d)) ((ni + k) % n)) 2), bI g (ad 4) 10 (col (deliverF ft (roundF ft (nightsF ft k d)) ((ni + k) % n)) 3), bI g (ad 5) 10 (col (deliverF ft (roundF ft (nightsF ft k d)) ((ni + k) % n)) 4), bI g (ad 6) 3 (rulF (deliverF ft (roundF ft (nightsF ft k d)) ((ni + k) % n))), bI g (ad 7) 3 cn, bO (lad 0) 0 ([.ref (lad 1), .ref (lad 2), .ref (lad 3)]), bR g 4 (lad 1) 14 tr, bI g (lad 2) 6 u_7.1, bI g (lad 3) 96 u_7.2, txb] := hw
          subst hp_8
          refine lv_pop hx hb dX4_pass_31 rfl ?_
          have hw : WD g A s H locs [bO t 4 (tF (lad 0) ad ((if 0 < n then deliverF ft (roundF ft (nightsF ft k d)) ((ni + k) % n) else (roundF ft (nightsF ft k d))) 0) ((if 0 < n then deliverF ft (roundF ft (nightsF ft k d)) ((ni + k) % n) else (roundF ft (nightsF ft k d))) 9) ((if 0 < n then deliverF ft (roundF ft (nightsF ft k d)) ((ni + k) % n) else (roundF ft (nightsF ft k d))) 5) ((if 0 < n then deliverF ft (roundF ft (nightsF ft k d)) ((ni + k) % n) else (roundF ft (nightsF ft k d))) 6) ((if 0 < n then deliverF ft (roundF ft (nightsF ft k d)) ((ni + k) % n) else (roundF ft (nightsF ft k d))) 7) ((if 0 < n then deliverF ft (roundF ft (nightsF ft k d)) ((ni + k) % n) else (roundF ft (nightsF ft k d))) 1) ((if 0 < n then deliverF ft (roundF ft (nightsF ft k d)) ((ni + k) % n) else (roundF ft (nightsF ft k d))) 8)), bI g (ad 1) 10 (col (if 0 < n then deliverF ft (roundF ft (nightsF ft k d)) ((ni + k) % n) else (roundF ft (nightsF ft k d))) 0), bI g (ad 2) 10 (col (if 0 < n then deliverF ft (roundF ft (nightsF ft k d)) ((ni + k) % n) else (roundF ft (nightsF ft k d))) 1), bI g (ad 3) 10 (col (if 0 < n then deliverF ft (roundF ft (nightsF ft k d)) ((ni + k) % n) else (roundF ft (nightsF ft k d))) 2), bI g (ad 4) 10 (col (if 0 < n then deliverF ft (roundF ft (nightsF ft k d)) ((ni + k) % n) else (roundF ft (nightsF ft k d))) 3), bI g (ad 5) 10 (col (if 0 < n then deliverF ft (roundF ft (nightsF ft k d)) ((ni + k) % n) else (roundF ft (nightsF ft k d))) 4), bI g (ad 6) 3 (rulF (if 0 < n then deliverF ft (roundF ft (nightsF ft k d)) ((ni + k) % n) else (roundF ft (nightsF ft k d)))), bI g (ad 7) 3 cn, bO (lad 0) 0 ([.ref (lad 1), .ref (lad 2), .ref (lad 3)]), bR g 4 (lad 1) 14 tr, bI g (lad 2) 6 u_7.1, bI g (lad 3) 96 u_7.2, txb] := by rw [show (if 0 < n then deliverF ft (roundF ft (nightsF ft k d)) ((ni + k) % n) else (roundF ft (nightsF ft k d))) = _ from if_pos hn0]; exact hw
          have hI1 : InvH (if 0 < n then deliverF ft (roundF ft (nightsF ft k d)) ((ni + k) % n) else (roundF ft (nightsF ft k d))) := by rcases Nat.lt_or_ge 0 n with q | q; rw [if_pos q]; exact inv_deliver (inv_round (inv_nights hI)); rw [if_neg (by omega)]; exact inv_round (inv_nights hI)
          have hn1 : (if 0 < n then deliverF ft (roundF ft (nightsF ft k d)) ((ni + k) % n) else (roundF ft (nightsF ft k d))) 0 = nI n := by rcases Nat.lt_or_ge 0 n with q | q; rw [if_pos q, deliverF_lo (by omega) (by omega)]; exact hne; rw [if_neg (by omega)]; exact hne
          have hn2 : (itn burnF n (if 0 < n then deliverF ft (roundF ft (nightsF ft k d)) ((ni + k) % n) else (roundF ft (nightsF ft k d)))) 0 = nI n := by rw [burnF_lo (by omega)]; exact hn1
          refine lv_aload_n hx hb dX4_pass_32 rfl (lv_at hl 0 rfl) ?_
          refine s_callv (runV cf (x_burnAndBend (t := t) (lad := lad) (ad := ad) (d := (if 0 < n then deliverF ft (roundF ft (nightsF ft k d)) ((ni + k) % n) else (roundF ft (nightsF ft k d)))) (cn := cn) hI1 (n := n) hn1 hn10) hw [0, 1, 2, 3, 4, 5, 6, 7] (by decide) rfl km_X4_burnAndBend ki_X4_burnAndBend q505 (run_recv (ci := 4) (T := TX4) (N := 15) hw 0 rfl rfl) rfl rfl hl.1 rfl dX4_pass_33) hw [0, 1, 2, 3, 4, 5, 6, 7] (by decide) rfl (fun _ => rfl) (fun u_10 H locs hp_11 hw => ?_)
          have hw : WD g A s H locs [bO t 4 (tF (lad 0) ad ((itn burnF n (if 0 < n then deliverF ft (roundF ft (nightsF ft k d)) ((ni + k) % n) else (roundF ft (nightsF ft k d)))) 0) ((itn burnF n (if 0 < n then deliverF ft (roundF ft (nightsF ft k d)) ((ni + k) % n) else (roundF ft (nightsF ft k d)))) 9) ((itn burnF n (if 0 < n then deliverF ft (roundF ft (nightsF ft k d)) ((ni + k) % n) else (roundF ft (nightsF ft k d)))) 5) ((itn burnF n (if 0 < n then deliverF ft (roundF ft (nightsF ft k d)) ((ni + k) % n) else (roundF ft (nightsF ft k d)))) 6) ((itn burnF n (if 0 < n then deliverF ft (roundF ft (nightsF ft k d)) ((ni + k) % n) else (roundF ft (nightsF ft k d)))) 7) ((itn burnF n (if 0 < n then deliverF ft (roundF ft (nightsF ft k d)) ((ni + k) % n) else (roundF ft (nightsF ft k d)))) 1) ((itn burnF n (if 0 < n then deliverF ft (roundF ft (nightsF ft k d)) ((ni + k) % n) else (roundF ft (nightsF ft k d)))) 8)), bI g (ad 1) 10 (col (itn burnF n (if 0 < n then deliverF ft (roundF ft (nightsF ft k d)) ((ni + k) % n) else (roundF ft (nightsF ft k d)))) 0), bI g (ad 2) 10 (col (itn burnF n (if 0 < n then deliverF ft (roundF ft (nightsF ft k d)) ((ni + k) % n) else (roundF ft (nightsF ft k d)))) 1), bI g (ad 3) 10 (col (itn burnF n (if 0 < n then deliverF ft (roundF ft (nightsF ft k d)) ((ni + k) % n) else (roundF ft (nightsF ft k d)))) 2), bI g (ad 4) 10 (col (itn burnF n (if 0 < n then deliverF ft (roundF ft (nightsF ft k d)) ((ni + k) % n) else (roundF ft (nightsF ft k d)))) 3), bI g (ad 5) 10 (col (itn burnF n (if 0 < n then deliverF ft (roundF ft (nightsF ft k d)) ((ni + k) % n) else (roundF ft (nightsF ft k d)))) 4), bI g (ad 6) 3 (rulF (itn burnF n (if 0 < n then deliverF ft (roundF ft (nightsF ft k d)) ((ni + k) % n) else (roundF ft (nightsF ft k d))))), bI g (ad 7) 3 cn, bO (lad 0) 0 ([.ref (lad 1), .ref (lad 2), .ref (lad 3)]), bR g 4 (lad 1) 14 tr, bI g (lad 2) 6 u_7.1, bI g (lad 3) 96 u_7.2, txb] := hw
          refine lv_aload_n hx hb dX4_pass_36 rfl (lv_at hl 0 rfl) ?_
          refine s_callv (runV cf (x_tread (t := t) (lad := lad) (ad := ad) (d := (itn burnF n (if 0 < n then deliverF ft (roundF ft (nightsF ft k d)) ((ni + k) % n) else (roundF ft (nightsF ft k d))))) (cn := cn) (n := n) hn2 hn10) hw [0, 1, 2, 3, 4, 5, 6, 7] (by decide) rfl km_X4_tread ki_X4_tread q511 (run_recv (ci := 4) (T := TX4) (N := 15) hw 0 rfl rfl) rfl rfl hl.1 rfl dX4_pass_37) hw [0, 1, 2, 3, 4, 5, 6, 7] (by decide) rfl (fun _ => rfl) (fun u_12 H locs hp_13 hw => ?_)
          have hw : WD g A s H locs [bO t 4 (tF (lad 0) ad ((treadF (itn burnF n (if 0 < n then deliverF ft (roundF ft (nightsF ft k d)) ((ni + k) % n) else (roundF ft (nightsF ft k d))))) 0) ((treadF (itn burnF n (if 0 < n then deliverF ft (roundF ft (nightsF ft k d)) ((ni + k) % n) else (roundF ft (nightsF ft k d))))) 9) ((treadF (itn burnF n (if 0 < n then deliverF ft (roundF ft (nightsF ft k d)) ((ni + k) % n) else (roundF ft (nightsF ft k d))))) 5) ((treadF (itn burnF n (if 0 < n then deliverF ft (roundF ft (nightsF ft k d)) ((ni + k) % n) else (roundF ft (nightsF ft k d))))) 6) ((treadF (itn burnF n (if 0 < n then deliverF ft (roundF ft (nightsF ft k d)) ((ni + k) % n) else (roundF ft (nightsF ft k d))))) 7) ((treadF (itn burnF n (if 0 < n then deliverF ft (roundF ft (nightsF ft k d)) ((ni + k) % n) else (roundF ft (nightsF ft k d))))) 1) ((treadF (itn burnF n (if 0 < n then deliverF ft (roundF ft (nightsF ft k d)) ((ni + k) % n) else (roundF ft (nightsF ft k d))))) 8)), bI g (ad 1) 10 (col (treadF (itn burnF n (if 0 < n then deliverF ft (roundF ft (nightsF ft k d)) ((ni + k) % n) else (roundF ft (nightsF ft k d))))) 0), bI g (ad 2) 10 (col (treadF (itn burnF n (if 0 < n then deliverF ft (roundF ft (nightsF ft k d)) ((ni + k) % n) else (roundF ft (nightsF ft k d))))) 1), bI g (ad 3) 10 (col (treadF (itn burnF n (if 0 < n then deliverF ft (roundF ft (nightsF ft k d)) ((ni + k) % n) else (roundF ft (nightsF ft k d))))) 2), bI g (ad 4) 10 (col (treadF (itn burnF n (if 0 < n then deliverF ft (roundF ft (nightsF ft k d)) ((ni + k) % n) else (roundF ft (nightsF ft k d))))) 3), bI g (ad 5) 10 (col (treadF (itn burnF n (if 0 < n then deliverF ft (roundF ft (nightsF ft k d)) ((ni + k) % n) else (roundF ft (nightsF ft k d))))) 4), bI g (ad 6) 3 (rulF (treadF (itn burnF n (if 0 < n then deliverF ft (roundF ft (nightsF ft k d)) ((ni + k) % n) else (roundF ft (nightsF ft k d)))))), bI g (ad 7) 3 cn, bO (lad 0) 0 ([.ref (lad 1), .ref (lad 2), .ref (lad 3)]), bR g 4 (lad 1) 14 tr, bI g (lad 2) 6 u_7.1, bI g (lad 3) 96 u_7.2, txb] := hw
          refine lv_aload_n hx hb dX4_pass_40 rfl (lv_at hl 0 rfl) ?_
          refine lv_dup hx hb dX4_pass_41 rfl ?_
          refine s_get (v := .int ((treadF (itn burnF n (if 0 < n then deliverF ft (roundF ft (nightsF ft k d)) ((ni + k) % n) else (roundF ft (nightsF ft k d))))) 1)) fb4 cf hw 0 rfl 13 rfl q182 rfl dX4_pass_42 ?_
          refine lv_iconst (v := 1) hx hb dX4_pass_45 (by decide) ?_
          refine lv_iadd hx hb dX4_pass_46 ?_
          refine s_put (v := .int (((treadF (itn burnF n (if 0 < n then deliverF ft (roundF ft (nightsF ft k d)) ((ni + k) % n) else (roundF ft (nightsF ft k d))))) 1) + 1)) fb4 cf hw 0 rfl 13 rfl q182 rfl rfl rfl rfl dX4_pass_47 (fun H locs hw => ?_)
          have hw : WD g A s H locs [bO t 4 (tF (lad 0) ad ((treadF (itn burnF n (if 0 < n then deliverF ft (roundF ft (nightsF ft k d)) ((ni + k) % n) else (roundF ft (nightsF ft k d))))) 0) ((treadF (itn burnF n (if 0 < n then deliverF ft (roundF ft (nightsF ft k d)) ((ni + k) % n) else (roundF ft (nightsF ft k d))))) 9) ((treadF (itn burnF n (if 0 < n then deliverF ft (roundF ft (nightsF ft k d)) ((ni + k) % n) else (roundF ft (nightsF ft k d))))) 5) ((treadF (itn burnF n (if 0 < n then deliverF ft (roundF ft (nightsF ft k d)) ((ni + k) % n) else (roundF ft (nightsF ft k d))))) 6) ((treadF (itn burnF n (if 0 < n then deliverF ft (roundF ft (nightsF ft k d)) ((ni + k) % n) else (roundF ft (nightsF ft k d))))) 7) (((treadF (itn burnF n (if 0 < n then deliverF ft (roundF ft (nightsF ft k d)) ((ni + k) % n) else (roundF ft (nightsF ft k d))))) 1) + 1) ((treadF (itn burnF n (if 0 < n then deliverF ft (roundF ft (nightsF ft k d)) ((ni + k) % n) else (roundF ft (nightsF ft k d))))) 8)), bI g (ad 1) 10 (col (treadF (itn burnF n (if 0 < n then deliverF ft (roundF ft (nightsF ft k d)) ((ni + k) % n) else (roundF ft (nightsF ft k d))))) 0), bI g (ad 2) 10 (col (treadF (itn burnF n (if 0 < n then deliverF ft (roundF ft (nightsF ft k d)) ((ni + k) % n) else (roundF ft (nightsF ft k d))))) 1), bI g (ad 3) 10 (col (treadF (itn burnF n (if 0 < n then deliverF ft (roundF ft (nightsF ft k d)) ((ni + k) % n) else (roundF ft (nightsF ft k d))))) 2), bI g (ad 4) 10 (col (treadF (itn burnF n (if 0 < n then deliverF ft (roundF ft (nightsF ft k d)) ((ni + k) % n) else (roundF ft (nightsF ft k d))))) 3), bI g (ad 5) 10 (col (treadF (itn burnF n (if 0 < n then deliverF ft (roundF ft (nightsF ft k d)) ((ni + k) % n) else (roundF ft (nightsF ft k d))))) 4), bI g (ad 6) 3 (rulF (treadF (itn burnF n (if 0 < n then deliverF ft (roundF ft (nightsF ft k d)) ((ni + k) % n) else (roundF ft (nightsF ft k d)))))), bI g (ad 7) 3 cn, bO (lad 0) 0 ([.ref (lad 1), .ref (lad 2), .ref (lad 3)]), bR g 4 (lad 1) 14 tr, bI g (lad 2) 6 u_7.1, bI g (lad 3) 96 u_7.2, txb] := hw
          have he : nightsF ft (k + 1) d = upd (treadF (itn burnF n (if 0 < n then deliverF ft (roundF ft (nightsF ft k d)) ((ni + k) % n) else (roundF ft (nightsF ft k d))))) 1 (treadF (itn burnF n (if 0 < n then deliverF ft (roundF ft (nightsF ft k d)) ((ni + k) % n) else (roundF ft (nightsF ft k d)))) 1 + 1) := nightF_eq hnk hn10 hnik (by omega)
          have hw : WD g A s H locs [bO t 4 (tF (lad 0) ad ((nightsF ft (k + 1) d) 0) ((nightsF ft (k + 1) d) 9) ((nightsF ft (k + 1) d) 5) ((nightsF ft (k + 1) d) 6) ((nightsF ft (k + 1) d) 7) ((nightsF ft (k + 1) d) 1) ((nightsF ft (k + 1) d) 8)), bI g (ad 1) 10 (col (nightsF ft (k + 1) d) 0), bI g (ad 2) 10 (col (nightsF ft (k + 1) d) 1), bI g (ad 3) 10 (col (nightsF ft (k + 1) d) 2), bI g (ad 4) 10 (col (nightsF ft (k + 1) d) 3), bI g (ad 5) 10 (col (nightsF ft (k + 1) d) 4), bI g (ad 6) 3 (rulF (nightsF ft (k + 1) d)), bI g (ad 7) 3 cn, bO (lad 0) 0 ([.ref (lad 1), .ref (lad 2), .ref (lad 3)]), bR g 4 (lad 1) 14 tr, bI g (lad 2) 6 u_7.1, bI g (lad 3) 96 u_7.2, txb] := by rw [he]; exact tw_wd (rest := [bO (lad 0) 0 ([.ref (lad 1), .ref (lad 2), .ref (lad 3)]), bR g 4 (lad 1) 14 tr, bI g (lad 2) 6 u_7.1, bI g (lad 3) 96 u_7.2, txb]) (e := upd (treadF (itn burnF n (if 0 < n then deliverF ft (roundF ft (nightsF ft k d)) ((ni + k) % n) else (roundF ft (nightsF ft k d))))) 1 (treadF (itn burnF n (if 0 < n then deliverF ft (roundF ft (nightsF ft k d)) ((ni + k) % n) else (roundF ft (nightsF ft k d)))) 1 + 1)) (tw_lo (by omega) (by omega)) hw
          refine lv_iinc (v := nI (k + 1)) (lv' := [(2, .int (nI (k + 1))), (0, .ref t), (1, .int (nI N))]) hx hb dX4_pass_50 hl (k := 2) rfl (nI_1 k) (by decide) rfl (fun ls hl => ?_)
          refine lv_goto (tgt := 2) hx hb dX4_pass_53 (by decide) ?_
          exact ih2 (k + 1) u_7.1 u_7.2 (by omega) (by omega) _ _ _ hw (lv_sub hl [1, 2, 0] rfl)
  exact L2 (N + 1) 0 nm st_ (by omega) (by omega) _ _ _ hw (lv_sub hl [1, 2, 0] rfl)
