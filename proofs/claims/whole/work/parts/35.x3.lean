set_option maxRecDepth 100000 in
set_option maxHeartbeats 4000000 in
theorem x_has {l : Launch} {g : GG} {t : Nat} {lad ad : Nat → Nat} {d cn : DD} {n : Nat} (hn : d 0 = nI n) (hn10 : n ≤ 10) (h : Int32) : Ct l g yX4_has cX4_has 2 (Option.some Jvm.ClassFile.FieldType.boolean) 0 0 0 [.ref t, .int h] [bO t 4 (tF (lad 0) ad (d 0) (d 9) (d 5) (d 6) (d 7) (d 1) (d 8))] (QI g (fun r (_ : Unit) => r = if 0 ≤ h ∧ h ≤ d 0 - 1 then 1 else 0) (fun _ => [bO t 4 (tF (lad 0) ad (d 0) (d 9) (d 5) (d 6) (d 7) (d 1) (d 8))])) := by
  refine Ct.of (by decide) rfl ?_
  intro p e s m args below meth c A H locs ls Qf cf hr hlk hnm hQ hw hl
  have hx := cf.1
  have hb := cf.2.1
  have hml := cf.2.2.1
  have hown := cf.2.2.2.1
  have hts := cf.2.2.2.2
  have hw : WD g A s H locs [bO t 4 (tF (lad 0) ad (d 0) (d 9) (d 5) (d 6) (d 7) (d 1) (d 8))] := hw
  have hl : lv_has ls 2 [(0, .ref t), (1, .int h)] := hl
  have hb0 := n_rng hn hn10
  refine lv_iload_n hx hb dX4_has_0 rfl (lv_at hl 1 rfl) ?_
  refine lv_if_lt (tgt := 16) hx hb dX4_has_1 (by decide) (fun c1 => ?_) (fun c1 => ?_)
  · refine lv_iconst (v := 0) hx hb dX4_has_16 (by decide) ?_
    exact s_zret cf hr hlk () hw (by grind) rfl (Nat.le_of_ble_eq_true rfl) (Nat.le_of_ble_eq_true rfl) dX4_has_17 hQ
  · refine lv_iload_n hx hb dX4_has_4 rfl (lv_at hl 1 rfl) ?_
    refine lv_aload_n hx hb dX4_has_5 rfl (lv_at hl 0 rfl) ?_
    refine s_get (v := .int (d 0)) fb4 cf hw 0 rfl 8 rfl q173 rfl dX4_has_6 ?_
    refine lv_icmp_ge (tgt := 16) hx hb dX4_has_9 (by decide) (fun c9 => ?_) (fun c9 => ?_)
    · refine lv_iconst (v := 0) hx hb dX4_has_16 (by decide) ?_
      exact s_zret cf hr hlk () hw (by grind) rfl (Nat.le_of_ble_eq_true rfl) (Nat.le_of_ble_eq_true rfl) dX4_has_17 hQ
    · refine lv_iconst (v := 1) hx hb dX4_has_12 (by decide) ?_
      refine lv_goto (tgt := 17) hx hb dX4_has_13 (by decide) ?_
      exact s_zret cf hr hlk () hw (by grind) rfl (Nat.le_of_ble_eq_true rfl) (Nat.le_of_ble_eq_true rfl) dX4_has_17 hQ
set_option maxRecDepth 100000 in
set_option maxHeartbeats 4000000 in
theorem x_draw {l : Launch} {g : GG} {t : Nat} {lad ad : Nat → Nat} {d cn : DD} : Ct l g yX4_draw cX4_draw 1 (Option.some Jvm.ClassFile.FieldType.int) 0 0 0 [.ref t] [bO t 4 (tF (lad 0) ad (d 0) (d 9) (d 5) (d 6) (d 7) (d 1) (d 8))] (QI g (fun r (_ : Unit) => r = dwF (drawF d 8)) (fun _ => [bO t 4 (tF (lad 0) ad ((drawF d) 0) ((drawF d) 9) ((drawF d) 5) ((drawF d) 6) ((drawF d) 7) ((drawF d) 1) ((drawF d) 8))])) := by
  refine Ct.of (by decide) rfl ?_
  intro p e s m args below meth c A H locs ls Qf cf hr hlk hnm hQ hw hl
  have hx := cf.1
  have hb := cf.2.1
  have hml := cf.2.2.1
  have hown := cf.2.2.2.1
  have hts := cf.2.2.2.2
  have hw : WD g A s H locs [bO t 4 (tF (lad 0) ad (d 0) (d 9) (d 5) (d 6) (d 7) (d 1) (d 8))] := hw
  have hl : lv_has ls 1 [(0, .ref t)] := hl
  refine lv_aload_n hx hb dX4_draw_0 rfl (lv_at hl 0 rfl) ?_
  refine lv_aload_n hx hb dX4_draw_1 rfl (lv_at hl 0 rfl) ?_
  refine s_get (v := .int (d 8)) fb4 cf hw 0 rfl 14 rfl q184 rfl dX4_draw_2 ?_
  refine lv_ldc hx hb hown (hts _ q471) dX4_draw_5 ?_
  refine lv_imul hx hb dX4_draw_7 ?_
  refine lv_sipush (v := 12345) hx hb dX4_draw_8 (by decide) ?_
  refine lv_iadd hx hb dX4_draw_11 ?_
  refine s_put (v := .int (((d 8) * 1103515245) + 12345)) fb4 cf hw 0 rfl 14 rfl q184 rfl rfl rfl rfl dX4_draw_12 (fun H locs hw => ?_)
  have hw : WD g A s H locs [bO t 4 (tF (lad 0) ad (d 0) (d 9) (d 5) (d 6) (d 7) (d 1) (((d 8) * 1103515245) + 12345))] := hw
  refine lv_aload_n hx hb dX4_draw_15 rfl (lv_at hl 0 rfl) ?_
  refine s_get (v := .int (((d 8) * 1103515245) + 12345)) fb4 cf hw 0 rfl 14 rfl q184 rfl dX4_draw_16 ?_
  refine lv_bipush (v := 8) hx hb dX4_draw_19 (by decide) ?_
  refine lv_iushr (v := ((((d 8) * 1103515245) + 12345).toUInt32 >>> ((8 : Int32).toUInt32 &&& Int32.toUInt32 31)).toInt32) hx hb dX4_draw_21 rfl ?_
  exact s_iret cf hr hlk () hw rfl (Nat.le_of_ble_eq_true rfl) (Nat.le_of_ble_eq_true rfl) dX4_draw_22 hQ
set_option maxRecDepth 100000 in
set_option maxHeartbeats 4000000 in
theorem x_bends {l : Launch} {g : GG} {t : Nat} {lad ad : Nat → Nat} {d cn : DD} (i : Nat) (hi : i < 10) : Ct l g yX4_bends cX4_bends 2 (Option.some Jvm.ClassFile.FieldType.int) 0 0 0 [.ref t, .int (nI i)] [bO t 4 (tF (lad 0) ad (d 0) (d 9) (d 5) (d 6) (d 7) (d 1) (d 8)), bI g (ad 1) 10 (col d 0), bI g (ad 4) 10 (col d 3)] (QI g (fun r (_ : Unit) => r = bendsF d i) (fun _ => [bO t 4 (tF (lad 0) ad (d 0) (d 9) (d 5) (d 6) (d 7) (d 1) (d 8)), bI g (ad 1) 10 (col d 0), bI g (ad 4) 10 (col d 3)])) := by
  refine Ct.of (by decide) rfl ?_
  intro p e s m args below meth c A H locs ls Qf cf hr hlk hnm hQ hw hl
  have hx := cf.1
  have hb := cf.2.1
  have hml := cf.2.2.1
  have hown := cf.2.2.2.1
  have hts := cf.2.2.2.2
  have hw : WD g A s H locs [bO t 4 (tF (lad 0) ad (d 0) (d 9) (d 5) (d 6) (d 7) (d 1) (d 8)), bI g (ad 1) 10 (col d 0), bI g (ad 4) 10 (col d 3)] := hw
  have hl : lv_has ls 2 [(0, .ref t), (1, .int (nI i))] := hl
  refine lv_aload_n hx hb dX4_bends_0 rfl (lv_at hl 0 rfl) ?_
  refine s_get (v := .ref (ad 1)) fb4 cf hw 0 rfl 1 rfl q155 rfl dX4_bends_1 ?_
  refine lv_iload_n hx hb dX4_bends_4 rfl (lv_at hl 1 rfl) ?_
  refine s_iald (j := i) cf hw 1 rfl (rfl) (by omega) rfl dX4_bends_5 ?_
  refine lv_topr (y := d (10 + 5 * i + 0)) (rfl) ?_
  by_cases t6_1 : d (10 + 5 * i + 0) = 1
  · refine lv_tableIn (tgt := 40) (off := 34) hx hb dX4_bends_6 (by rw [t6_1]; decide) (by rw [t6_1]; decide) (by rw [t6_1]; decide) (by decide) ?_
    refine lv_iconst (v := 1) hx hb dX4_bends_40 (by decide) ?_
    exact s_iret cf hr hlk () hw (by unfold bendsF; rw [if_pos t6_1]) (Nat.le_of_ble_eq_true rfl) (Nat.le_of_ble_eq_true rfl) dX4_bends_41 hQ
  by_cases t6_2 : d (10 + 5 * i + 0) = 2
  · refine lv_tableIn (tgt := 44) (off := 38) hx hb dX4_bends_6 (by rw [t6_2]; decide) (by rw [t6_2]; decide) (by rw [t6_2]; decide) (by decide) ?_
    refine lv_iconst (v := (-1)) hx hb dX4_bends_44 (by decide) ?_
    refine lv_aload_n hx hb dX4_bends_45 rfl (lv_at hl 0 rfl) ?_
    refine s_get (v := .ref (ad 4)) fb4 cf hw 0 rfl 4 rfl q163 rfl dX4_bends_46 ?_
    refine lv_iload_n hx hb dX4_bends_49 rfl (lv_at hl 1 rfl) ?_
    refine s_iald (j := i) cf hw 2 rfl (rfl) (by omega) rfl dX4_bends_50 ?_
    refine lv_topr (y := d (10 + 5 * i + 3)) (rfl) ?_
    refine lv_bipush (v := 10) hx hb dX4_bends_51 (by decide) ?_
    refine lv_idiv hx hb dX4_bends_53 (by decide) ?_
    refine lv_isub hx hb dX4_bends_54 ?_
    exact s_iret cf hr hlk () hw (by unfold bendsF; rw [if_neg t6_1, if_pos t6_2]) (Nat.le_of_ble_eq_true rfl) (Nat.le_of_ble_eq_true rfl) dX4_bends_55 hQ
  by_cases t6_3 : d (10 + 5 * i + 0) = 3
  · refine lv_tableIn (tgt := 42) (off := 36) hx hb dX4_bends_6 (by rw [t6_3]; decide) (by rw [t6_3]; decide) (by rw [t6_3]; decide) (by decide) ?_
    refine lv_iconst (v := 2) hx hb dX4_bends_42 (by decide) ?_
    exact s_iret cf hr hlk () hw (by unfold bendsF; rw [if_neg t6_1, if_neg t6_2, if_pos t6_3]) (Nat.le_of_ble_eq_true rfl) (Nat.le_of_ble_eq_true rfl) dX4_bends_43 hQ
  by_cases t6_4 : d (10 + 5 * i + 0) = 4
  · refine lv_tableIn (tgt := 56) (off := 50) hx hb dX4_bends_6 (by rw [t6_4]; decide) (by rw [t6_4]; decide) (by rw [t6_4]; decide) (by decide) ?_
    refine lv_iconst (v := 2) hx hb dX4_bends_56 (by decide) ?_
    refine lv_aload_n hx hb dX4_bends_57 rfl (lv_at hl 0 rfl) ?_
    refine s_get (v := .ref (ad 4)) fb4 cf hw 0 rfl 4 rfl q163 rfl dX4_bends_58 ?_
    refine lv_iload_n hx hb dX4_bends_61 rfl (lv_at hl 1 rfl) ?_
    refine s_iald (j := i) cf hw 2 rfl (rfl) (by omega) rfl dX4_bends_62 ?_
    refine lv_topr (y := d (10 + 5 * i + 3)) (rfl) ?_
    refine lv_bipush (v := 10) hx hb dX4_bends_63 (by decide) ?_
    refine lv_idiv hx hb dX4_bends_65 (by decide) ?_
    refine lv_isub hx hb dX4_bends_66 ?_
    exact s_iret cf hr hlk () hw (by unfold bendsF; rw [if_neg t6_1, if_neg t6_2, if_neg t6_3, if_pos t6_4]; exact bends_club _) (Nat.le_of_ble_eq_true rfl) (Nat.le_of_ble_eq_true rfl) dX4_bends_67 hQ
  by_cases t6_5 : d (10 + 5 * i + 0) = 5
  · refine lv_tableIn (tgt := 68) (off := 62) hx hb dX4_bends_6 (by rw [t6_5]; decide) (by rw [t6_5]; decide) (by rw [t6_5]; decide) (by decide) ?_
    refine lv_iconst (v := 0) hx hb dX4_bends_68 (by decide) ?_
    exact s_iret cf hr hlk () hw (by unfold bendsF; rw [if_neg t6_1, if_neg t6_2, if_neg t6_3, if_neg t6_4, if_pos t6_5]) (Nat.le_of_ble_eq_true rfl) (Nat.le_of_ble_eq_true rfl) dX4_bends_69 hQ
  refine lv_tableOut (tgt := 70) hx hb dX4_bends_6 (by have e0 := lv_neT t6_1 (show (1 : Int32).toInt = 1 from rfl); have e1 := lv_neT t6_2 (show (2 : Int32).toInt = 2 from rfl); have e2 := lv_neT t6_3 (show (3 : Int32).toInt = 3 from rfl); have e3 := lv_neT t6_4 (show (4 : Int32).toInt = 4 from rfl); have e4 := lv_neT t6_5 (show (5 : Int32).toInt = 5 from rfl); omega) (by decide) ?_
  refine lv_iconst (v := (-1)) hx hb dX4_bends_70 (by decide) ?_
  exact s_iret cf hr hlk () hw (by unfold bendsF; rw [if_neg t6_1, if_neg t6_2, if_neg t6_3, if_neg t6_4, if_neg t6_5]) (Nat.le_of_ble_eq_true rfl) (Nat.le_of_ble_eq_true rfl) dX4_bends_71 hQ
set_option maxRecDepth 100000 in
set_option maxHeartbeats 4000000 in
theorem x_burns {l : Launch} {g : GG} {t : Nat} {lad ad : Nat → Nat} {d cn : DD} (i : Nat) (hi : i < 10) (hI : InvH d) : Ct l g yX4_burns cX4_burns 2 (Option.some Jvm.ClassFile.FieldType.int) 1 0 0 [.ref t, .int (nI i)] [bO t 4 (tF (lad 0) ad (d 0) (d 9) (d 5) (d 6) (d 7) (d 1) (d 8)), bI g (ad 1) 10 (col d 0)] (QI g (fun r (_ : Unit) => r = burnsF d i) (fun _ => [bO t 4 (tF (lad 0) ad (d 0) (d 9) (d 5) (d 6) (d 7) (d 1) (d 8)), bI g (ad 1) 10 (col d 0)])) := by
  refine Ct.of (by decide) rfl ?_
  intro p e s m args below meth c A H locs ls Qf cf hr hlk hnm hQ hw hl
  have hx := cf.1
  have hb := cf.2.1
  have hml := cf.2.2.1
  have hown := cf.2.2.2.1
  have hts := cf.2.2.2.2
  have hw : WD g A s H locs [bO t 4 (tF (lad 0) ad (d 0) (d 9) (d 5) (d 6) (d 7) (d 1) (d 8)), bI g (ad 1) 10 (col d 0)] := hw
  have hl : lv_has ls 2 [(0, .ref t), (1, .int (nI i))] := hl
  obtain ⟨k, hk, ek⟩ := rng_nat (m := 5) (by omega) (inv_at hI i 0 (by omega)).1 (inv_at hI i 0 (by omega)).2
  refine lv_aload_n hx hb dX4_burns_0 rfl (lv_at hl 0 rfl) ?_
  refine s_get (v := .ref (ad 1)) fb4 cf hw 0 rfl 1 rfl q155 rfl dX4_burns_1 ?_
  refine lv_iload_n hx hb dX4_burns_4 rfl (lv_at hl 1 rfl) ?_
  refine s_iald (j := i) cf hw 1 rfl (rfl) (by omega) rfl dX4_burns_5 ?_
  refine lv_topr (y := d (10 + 5 * i + 0)) (rfl) ?_
  refine s_calli (runSN cf (x_isKind (d (10 + 5 * i + 0))) hw [] (by decide) rfl km_X6_isKind ks_X6_isKind q426 rfl rfl hl.1 rfl dX4_burns_6) hw [] (by decide) rfl (fun _ => rfl) (fun r_3 u_1 H locs hp_2 hw => ?_)
  have hw : WD g A s H locs [bO t 4 (tF (lad 0) ad (d 0) (d 9) (d 5) (d 6) (d 7) (d 1) (d 8)), bI g (ad 1) 10 (col d 0)] := hw
  subst hp_2
  refine lv_if_eq (tgt := 25) hx hb dX4_burns_9 (by decide) (fun c9 => ?_) (fun c9 => ?_)
  · have c9 := b01_z c9
    exact absurd (inv_at hI i 0 (by omega)) c9
  · have c9 := b01_n c9
    refine va_getsN hx hb (hw.2.2.2.2.2.2.2.2.2.1).1 hw.2.2.2.1 hown (va_Nw.use rfl (hw.2.2.2.2.2.1 _ q427 rfl)) (fun _ h => h) dX4_burns_12 ?_
    refine lv_aload_n hx hb dX4_burns_15 rfl (lv_at hl 0 rfl) ?_
    refine s_get (v := .ref (ad 1)) fb4 cf hw 0 rfl 1 rfl q155 rfl dX4_burns_16 ?_
    refine lv_iload_n hx hb dX4_burns_19 rfl (lv_at hl 1 rfl) ?_
    refine s_iald (j := i) cf hw 1 rfl (rfl) (by omega) rfl dX4_burns_20 ?_
    refine lv_topr (y := d (10 + 5 * i + 0)) (rfl) ?_
    refine va_ti hx hb (hw.2.2.2.2.2.2.2.2.2.1).2 hw.2.2.2.1 (i := d (10 + 5 * i + 0)) (v := .int (buF k)) (by rw [show (d (10 + 5 * i + 0) : Int32) = nI k from ek]; exact vp_in_nI (by omega) (by decide)) (by rw [show (d (10 + 5 * i + 0) : Int32) = nI k from ek, nI_clamp (by omega)]) dX4_burns_21 ?_
    refine lv_goto (tgt := 26) hx hb dX4_burns_22 (by decide) ?_
    exact s_iret cf hr hlk () hw (burns_k hk ek) (Nat.le_of_ble_eq_true rfl) (Nat.le_of_ble_eq_true rfl) dX4_burns_26 hQ
set_option maxRecDepth 100000 in
set_option maxHeartbeats 4000000 in
theorem x_tuneBeside {l : Launch} {g : GG} {t : Nat} {lad ad : Nat → Nat} {d cn : DD} (i : Nat) (hI : InvH d) : Ct l g yX4_tuneBeside cX4_tuneBeside 2 (Option.some Jvm.ClassFile.FieldType.int) 1 0 0 [.ref t, .int (nI i)] [bO t 4 (tF (lad 0) ad (d 0) (d 9) (d 5) (d 6) (d 7) (d 1) (d 8))] (QI g (fun r (_ : Unit) => r = 2 * onesF (d 5 &&& (((1 : Int32) <<< (nI i &&& 31)) ^^^ (-1)))) (fun _ => [bO t 4 (tF (lad 0) ad (d 0) (d 9) (d 5) (d 6) (d 7) (d 1) (d 8))])) := by
  refine Ct.of (by decide) rfl ?_
  intro p e s m args below meth c A H locs ls Qf cf hr hlk hnm hQ hw hl
  have hx := cf.1
  have hb := cf.2.1
  have hml := cf.2.2.1
  have hown := cf.2.2.2.1
  have hts := cf.2.2.2.2
  have hw : WD g A s H locs [bO t 4 (tF (lad 0) ad (d 0) (d 9) (d 5) (d 6) (d 7) (d 1) (d 8))] := hw
  have hl : lv_has ls 2 [(0, .ref t), (1, .int (nI i))] := hl
  obtain ⟨tn, htn, etn⟩ := inv_t hI
  refine lv_iconst (v := 2) hx hb dX4_tuneBeside_0 (by decide) ?_
  refine lv_aload_n hx hb dX4_tuneBeside_1 rfl (lv_at hl 0 rfl) ?_
  refine s_get (v := .int (d 5)) fb4 cf hw 0 rfl 10 rfl q177 rfl dX4_tuneBeside_2 ?_
  refine lv_iconst (v := 1) hx hb dX4_tuneBeside_5 (by decide) ?_
  refine lv_iload_n hx hb dX4_tuneBeside_6 rfl (lv_at hl 1 rfl) ?_
  refine lv_ishl hx hb dX4_tuneBeside_7 ?_
  refine lv_iconst (v := (-1)) hx hb dX4_tuneBeside_8 (by decide) ?_
  refine lv_ixor hx hb dX4_tuneBeside_9 ?_
  refine lv_iand hx hb dX4_tuneBeside_10 ?_
  refine s_calli (runS cf (x_bitCount ((d 5) &&& (((1 : Int32) <<< ((nI i) &&& 31)) ^^^ (-1)))) hw [] (by decide) rfl km_J6_bitCount_0f7a4 ks_J6_bitCount_0f7a4 q411 rfl rfl hl.1 rfl dX4_tuneBeside_11) hw [] (by decide) rfl (fun _ => rfl) (fun r_3 u_1 H locs hp_2 hw => ?_)
  have hw : WD g A s H locs [bO t 4 (tF (lad 0) ad (d 0) (d 9) (d 5) (d 6) (d 7) (d 1) (d 8))] := hw
  subst hp_2
  refine lv_topr (y := onesF (d 5 &&& (((1 : Int32) <<< (nI i &&& 31)) ^^^ (-1)))) (by rw [etn]; exact (ones_rng htn _).1) ?_
  refine lv_imul hx hb dX4_tuneBeside_14 ?_
  exact s_iret cf hr hlk () hw rfl (Nat.le_of_ble_eq_true rfl) (Nat.le_of_ble_eq_true rfl) dX4_tuneBeside_15 hQ
set_option maxRecDepth 100000 in
set_option maxHeartbeats 4000000 in
theorem x_plain {l : Launch} {g : GG} {t : Nat} {lad ad : Nat → Nat} {d cn : DD} {nm st_ : DD} {tr : Nat → Option Nat} {txb : va_W} {ft : TXC} (hF : FitAt g tr txb (cn 0) ft) (hFo : okF ft) (hI : InvH d) (i : Nat) (hi : i < 10) : Ct l g yX4_plain cX4_plain 4 (Option.some Jvm.ClassFile.FieldType.int) 2 0 0 [.ref t, .int (nI i)] [bO t 4 (tF (lad 0) ad (d 0) (d 9) (d 5) (d 6) (d 7) (d 1) (d 8)), bI g (ad 1) 10 (col d 0), bI g (ad 2) 10 (col d 1), bI g (ad 3) 10 (col d 2), bI g (ad 4) 10 (col d 3), bI g (ad 7) 3 cn, bO (lad 0) 0 ([.ref (lad 1), .ref (lad 2), .ref (lad 3)]), bR g 4 (lad 1) 14 tr, bI g (lad 2) 6 nm, bI g (lad 3) 96 st_, txb] (QI g (fun r (_ : DD × DD) => r = plainF ft d i) (fun u => [bO t 4 (tF (lad 0) ad (d 0) (d 9) (d 5) (d 6) (d 7) (d 1) (d 8)), bI g (ad 1) 10 (col d 0), bI g (ad 2) 10 (col d 1), bI g (ad 3) 10 (col d 2), bI g (ad 4) 10 (col d 3), bI g (ad 7) 3 cn, bO (lad 0) 0 ([.ref (lad 1), .ref (lad 2), .ref (lad 3)]), bR g 4 (lad 1) 14 tr, bI g (lad 2) 6 u.1, bI g (lad 3) 96 u.2, txb])) := by
  refine Ct.of (by decide) rfl ?_
  intro p e s m args below meth c A H locs ls Qf cf hr hlk hnm hQ hw hl
  have hx := cf.1
  have hb := cf.2.1
  have hml := cf.2.2.1
  have hown := cf.2.2.2.1
  have hts := cf.2.2.2.2
  have hw : WD g A s H locs [bO t 4 (tF (lad 0) ad (d 0) (d 9) (d 5) (d 6) (d 7) (d 1) (d 8)), bI g (ad 1) 10 (col d 0), bI g (ad 2) 10 (col d 1), bI g (ad 3) 10 (col d 2), bI g (ad 4) 10 (col d 3), bI g (ad 7) 3 cn, bO (lad 0) 0 ([.ref (lad 1), .ref (lad 2), .ref (lad 3)]), bR g 4 (lad 1) 14 tr, bI g (lad 2) 6 nm, bI g (lad 3) 96 st_, txb] := hw
  have hl : lv_has ls 4 [(0, .ref t), (1, .int (nI i))] := hl
  refine lv_aload_n hx hb dX4_plain_0 rfl (lv_at hl 0 rfl) ?_
  refine s_get (v := .ref (lad 0)) fb4 cf hw 0 rfl 0 rfl q154 rfl dX4_plain_1 ?_
  refine lv_aload_n hx hb dX4_plain_4 rfl (lv_at hl 0 rfl) ?_
  refine s_get (v := .ref (ad 7)) fb4 cf hw 0 rfl 7 rfl q171 rfl dX4_plain_5 ?_
  refine lv_iconst (v := 0) hx hb dX4_plain_8 (by decide) ?_
  refine s_iald (j := 0) cf hw 5 rfl (rfl) (by decide) rfl dX4_plain_9 ?_
  refine s_callq (runVN cf (x_at (lad := lad) (tr := tr) (cn 0)) hw [6, 7] (by decide) rfl km_X0_at ki_X0_at q379 (run_recv (ci := 0) (T := TX0) (N := 3) hw 6 rfl rfl) rfl rfl hl.1 rfl dX4_plain_10) hw [6, 7] (by decide) rfl (fun _ => rfl) (fun r_3 u_1 H locs hp_2 hw => ?_)
  have hw : WD g A s H locs [bO t 4 (tF (lad 0) ad (d 0) (d 9) (d 5) (d 6) (d 7) (d 1) (d 8)), bI g (ad 1) 10 (col d 0), bI g (ad 2) 10 (col d 1), bI g (ad 3) 10 (col d 2), bI g (ad 4) 10 (col d 3), bI g (ad 7) 3 cn, bO (lad 0) 0 ([.ref (lad 1), .ref (lad 2), .ref (lad 3)]), bR g 4 (lad 1) 14 tr, bI g (lad 2) 6 nm, bI g (lad 3) 96 st_, txb] := hw
  subst hp_2
  rcases ft with _ | ⟨len, tc⟩
  · have hat : atF tr (cn 0) = none := if_neg (fun z => absurd hF (Int32.not_lt.mpr z.1))
    refine lv_topv (y := .null) (by rw [hat]; rfl) ?_
    refine lv_astore_nN (lv' := [(2, .null), (0, .ref t), (1, .int (nI i))]) hx hb dX4_plain_13 rfl hl (by decide) rfl (fun ls hl => ?_)
    refine lv_aload_nN hx hb dX4_plain_14 rfl (lv_at hl 0 rfl) ?_
    refine lv_ifnonnullN hx hb dX4_plain_15 ?_
    refine lv_aload_n hx hb dX4_plain_18 rfl (lv_at hl 1 rfl) ?_
    refine s_get (v := .ref (ad 2)) fb4 cf hw 0 rfl 2 rfl q158 rfl dX4_plain_19 ?_
    refine lv_iload_n hx hb dX4_plain_22 rfl (lv_at hl 2 rfl) ?_
    refine s_iald (j := i) cf hw 2 rfl (rfl) (by omega) rfl dX4_plain_23 ?_
    refine lv_topr (y := d (10 + 5 * i + 1)) (rfl) ?_
    refine lv_aload_n hx hb dX4_plain_24 rfl (lv_at hl 1 rfl) ?_
    refine s_get (v := .ref (ad 3)) fb4 cf hw 0 rfl 3 rfl q161 rfl dX4_plain_25 ?_
    refine lv_iload_n hx hb dX4_plain_28 rfl (lv_at hl 2 rfl) ?_
    refine s_iald (j := i) cf hw 3 rfl (rfl) (by omega) rfl dX4_plain_29 ?_
    refine lv_topr (y := d (10 + 5 * i + 2)) (rfl) ?_
    refine lv_isub hx hb dX4_plain_30 ?_
    refine va_mabs hx hb (by rw [hml]; exact hl.1.symm) hown (hts _ q383) (hts _ ks_J9_abs_0f7a4) (hts _ km_J9_abs_0f7a4.1) (hts _ km_J9_abs_0f7a4.2.1) (Nat.le_of_ble_eq_true rfl) (Nat.le_of_ble_eq_true rfl) (Nat.le_of_ble_eq_true rfl) (Nat.le_of_ble_eq_true rfl) dX4_plain_31 ?_
    exact s_iret cf hr hlk (nm, st_) hw (abs_size _) (Nat.le_of_ble_eq_true rfl) (Nat.le_of_ble_eq_true rfl) dX4_plain_34 hQ
  · obtain ⟨jx, xa, ca, ky, pc_, ot, hcj, hj14, htr, hlen, hperm⟩ := hF
    have hat : atF tr (cn 0) = some xa := by unfold atF; rw [hcj, if_pos ⟨nI_pos' (by omega), nI_le (b := 13) (by omega) (by omega)⟩, nI_clamp (by omega)]; exact htr
    refine lv_topv (y := .ref xa) (by rw [hat]; rfl) ?_
    have hlb : Nat.ble len 1073741824 = true := Nat.ble_eq_true_of_le (by have h96 : len ≤ 96 := hlen; omega)
    have hw : WD g A s H locs [bO t 4 (tF (lad 0) ad (d 0) (d 9) (d 5) (d 6) (d 7) (d 1) (d 8)), bI g (ad 1) 10 (col d 0), bI g (ad 2) 10 (col d 1), bI g (ad 3) 10 (col d 2), bI g (ad 4) 10 (col d 3), bI g (ad 7) 3 cn, bO (lad 0) 0 ([.ref (lad 1), .ref (lad 2), .ref (lad 3)]), bR g 4 (lad 1) 14 tr, bI g (lad 2) 6 nm, bI g (lad 3) 96 st_, bO xa 5 ([.int ky, .int pc_, .ref ca]), bI g ca len tc, ot] := WD.opn (pre := [bO t 4 (tF (lad 0) ad (d 0) (d 9) (d 5) (d 6) (d 7) (d 1) (d 8)), bI g (ad 1) 10 (col d 0), bI g (ad 2) 10 (col d 1), bI g (ad 3) 10 (col d 2), bI g (ad 4) 10 (col d 3), bI g (ad 7) 3 cn, bO (lad 0) 0 ([.ref (lad 1), .ref (lad 2), .ref (lad 3)]), bR g 4 (lad 1) 14 tr, bI g (lad 2) 6 nm, bI g (lad 3) 96 st_]) hw hperm
    obtain ⟨hok, hsg, hnmn⟩ := hFo (len, tc) rfl
    refine lv_astore_n (lv' := [(2, .ref xa), (0, .ref t), (1, .int (nI i))]) hx hb dX4_plain_13 rfl hl (by decide) rfl (fun ls hl => ?_)
    refine lv_aload_n hx hb dX4_plain_14 rfl (lv_at hl 0 rfl) ?_
    refine lv_ifnonnull (tgt := 35) hx hb dX4_plain_15 (by decide) ?_
    refine lv_aload_n hx hb dX4_plain_35 rfl (lv_at hl 1 rfl) ?_
    refine s_get (v := .ref (lad 0)) fb4 cf hw 0 rfl 0 rfl q154 rfl dX4_plain_36 ?_
    refine s_getN (v := .ref (lad 2)) fb0 cf hw 6 rfl 1 rfl q126 rfl dX4_plain_39 ?_
    refine lv_astore_n (lv' := [(3, .ref (lad 2)), (2, .ref xa), (0, .ref t), (1, .int (nI i))]) hx hb dX4_plain_42 rfl hl (by decide) rfl (fun ls hl => ?_)
    refine lv_aload_n hx hb dX4_plain_43 rfl (lv_at hl 0 rfl) ?_
    refine lv_iconst (v := 0) hx hb dX4_plain_44 (by decide) ?_
    refine lv_aload_n hx hb dX4_plain_45 rfl (lv_at hl 2 rfl) ?_
    refine s_get (v := .ref (ad 2)) fb4 cf hw 0 rfl 2 rfl q158 rfl dX4_plain_46 ?_
    refine lv_iload_n hx hb dX4_plain_49 rfl (lv_at hl 3 rfl) ?_
    refine s_iald (j := i) cf hw 2 rfl (rfl) (by omega) rfl dX4_plain_50 ?_
    refine lv_topr (y := d (10 + 5 * i + 1)) (rfl) ?_
    refine s_iast (j := 0) cf hw 8 rfl (rfl) (by decide) rfl dX4_plain_51 (fun H locs hw => ?_)
    have hw : WD g A s H locs [bO t 4 (tF (lad 0) ad (d 0) (d 9) (d 5) (d 6) (d 7) (d 1) (d 8)), bI g (ad 1) 10 (col d 0), bI g (ad 2) 10 (col d 1), bI g (ad 3) 10 (col d 2), bI g (ad 4) 10 (col d 3), bI g (ad 7) 3 cn, bO (lad 0) 0 ([.ref (lad 1), .ref (lad 2), .ref (lad 3)]), bR g 4 (lad 1) 14 tr, bI g (lad 2) 6 (upd nm 0 (d (10 + 5 * i + 1))), bI g (lad 3) 96 st_, bO xa 5 ([.int ky, .int pc_, .ref ca]), bI g ca len tc, ot] := hw
    refine lv_aload_n hx hb dX4_plain_52 rfl (lv_at hl 0 rfl) ?_
    refine lv_iconst (v := 1) hx hb dX4_plain_53 (by decide) ?_
    refine lv_aload_n hx hb dX4_plain_54 rfl (lv_at hl 2 rfl) ?_
    refine s_get (v := .ref (ad 3)) fb4 cf hw 0 rfl 3 rfl q161 rfl dX4_plain_55 ?_
    refine lv_iload_n hx hb dX4_plain_58 rfl (lv_at hl 3 rfl) ?_
    refine s_iald (j := i) cf hw 3 rfl (rfl) (by omega) rfl dX4_plain_59 ?_
    refine lv_topr (y := d (10 + 5 * i + 2)) (rfl) ?_
    refine s_iast (j := 1) cf hw 8 rfl (rfl) (by decide) rfl dX4_plain_60 (fun H locs hw => ?_)
    have hw : WD g A s H locs [bO t 4 (tF (lad 0) ad (d 0) (d 9) (d 5) (d 6) (d 7) (d 1) (d 8)), bI g (ad 1) 10 (col d 0), bI g (ad 2) 10 (col d 1), bI g (ad 3) 10 (col d 2), bI g (ad 4) 10 (col d 3), bI g (ad 7) 3 cn, bO (lad 0) 0 ([.ref (lad 1), .ref (lad 2), .ref (lad 3)]), bR g 4 (lad 1) 14 tr, bI g (lad 2) 6 (upd (upd nm 0 (d (10 + 5 * i + 1))) 1 (d (10 + 5 * i + 2))), bI g (lad 3) 96 st_, bO xa 5 ([.int ky, .int pc_, .ref ca]), bI g ca len tc, ot] := hw
    refine lv_aload_n hx hb dX4_plain_61 rfl (lv_at hl 0 rfl) ?_
    refine lv_iconst (v := 2) hx hb dX4_plain_62 (by decide) ?_
    refine lv_aload_n hx hb dX4_plain_63 rfl (lv_at hl 2 rfl) ?_
    refine s_get (v := .ref (ad 4)) fb4 cf hw 0 rfl 4 rfl q163 rfl dX4_plain_64 ?_
    refine lv_iload_n hx hb dX4_plain_67 rfl (lv_at hl 3 rfl) ?_
    refine s_iald (j := i) cf hw 4 rfl (rfl) (by omega) rfl dX4_plain_68 ?_
    refine lv_topr (y := d (10 + 5 * i + 3)) (rfl) ?_
    refine s_iast (j := 2) cf hw 8 rfl (rfl) (by decide) rfl dX4_plain_69 (fun H locs hw => ?_)
    have hw : WD g A s H locs [bO t 4 (tF (lad 0) ad (d 0) (d 9) (d 5) (d 6) (d 7) (d 1) (d 8)), bI g (ad 1) 10 (col d 0), bI g (ad 2) 10 (col d 1), bI g (ad 3) 10 (col d 2), bI g (ad 4) 10 (col d 3), bI g (ad 7) 3 cn, bO (lad 0) 0 ([.ref (lad 1), .ref (lad 2), .ref (lad 3)]), bR g 4 (lad 1) 14 tr, bI g (lad 2) 6 (upd (upd (upd nm 0 (d (10 + 5 * i + 1))) 1 (d (10 + 5 * i + 2))) 2 (d (10 + 5 * i + 3))), bI g (lad 3) 96 st_, bO xa 5 ([.int ky, .int pc_, .ref ca]), bI g ca len tc, ot] := hw
    refine lv_aload_n hx hb dX4_plain_70 rfl (lv_at hl 0 rfl) ?_
    refine lv_iconst (v := 3) hx hb dX4_plain_71 (by decide) ?_
    refine lv_aload_n hx hb dX4_plain_72 rfl (lv_at hl 2 rfl) ?_
    refine s_get (v := .int (d 0)) fb4 cf hw 0 rfl 8 rfl q173 rfl dX4_plain_73 ?_
    refine s_iast (j := 3) cf hw 8 rfl (rfl) (by decide) rfl dX4_plain_76 (fun H locs hw => ?_)
    have hw : WD g A s H locs [bO t 4 (tF (lad 0) ad (d 0) (d 9) (d 5) (d 6) (d 7) (d 1) (d 8)), bI g (ad 1) 10 (col d 0), bI g (ad 2) 10 (col d 1), bI g (ad 3) 10 (col d 2), bI g (ad 4) 10 (col d 3), bI g (ad 7) 3 cn, bO (lad 0) 0 ([.ref (lad 1), .ref (lad 2), .ref (lad 3)]), bR g 4 (lad 1) 14 tr, bI g (lad 2) 6 (upd (upd (upd (upd nm 0 (d (10 + 5 * i + 1))) 1 (d (10 + 5 * i + 2))) 2 (d (10 + 5 * i + 3))) 3 (d 0)), bI g (lad 3) 96 st_, bO xa 5 ([.int ky, .int pc_, .ref ca]), bI g ca len tc, ot] := hw
    refine lv_aload_n hx hb dX4_plain_77 rfl (lv_at hl 1 rfl) ?_
    refine lv_aload_n hx hb dX4_plain_78 rfl (lv_at hl 0 rfl) ?_
    refine lv_aload_n hx hb dX4_plain_79 rfl (lv_at hl 2 rfl) ?_
    refine s_get (v := .ref (lad 0)) fb4 cf hw 0 rfl 0 rfl q154 rfl dX4_plain_80 ?_
    refine s_getN (v := .ref (lad 3)) fb0 cf hw 6 rfl 2 rfl q128 rfl dX4_plain_83 ?_
    refine s_calli (runVN cf (x_value (xa := xa) (ca := ca) (na := lad 2) (sa := lad 3) (ky := ky) (pc_ := pc_) (len := len) (tc := tc) (nm := upd (upd (upd (upd nm 0 (d (10 + 5 * i + 1))) 1 (d (10 + 5 * i + 2))) 2 (d (10 + 5 * i + 3))) 3 (d 0)) (st_ := st_) hok hsg) hw [10, 11, 8, 9] (by decide) rfl km_X5_value ki_X5_value q386 (run_recv (ci := 5) (T := TX5) (N := 3) hw 10 rfl rfl) rfl rfl hl.1 rfl dX4_plain_86) hw [10, 11, 8, 9] (by decide) rfl (fun _ => rfl) (fun r_6 u_4 H locs hp_5 hw => ?_)
    have hw : WD g A s H locs [bO t 4 (tF (lad 0) ad (d 0) (d 9) (d 5) (d 6) (d 7) (d 1) (d 8)), bI g (ad 1) 10 (col d 0), bI g (ad 2) 10 (col d 1), bI g (ad 3) 10 (col d 2), bI g (ad 4) 10 (col d 3), bI g (ad 7) 3 cn, bO (lad 0) 0 ([.ref (lad 1), .ref (lad 2), .ref (lad 3)]), bR g 4 (lad 1) 14 tr, bI g (lad 2) 6 (upd (upd (upd (upd nm 0 (d (10 + 5 * i + 1))) 1 (d (10 + 5 * i + 2))) 2 (d (10 + 5 * i + 3))) 3 (d 0)), bI g (lad 3) 96 u_4, bO xa 5 ([.int ky, .int pc_, .ref ca]), bI g ca len tc, ot] := hw
    subst hp_5
    refine s_calli (runSN cf (x_held (evalF (nmX (upd (upd (upd (upd nm 0 (d (10 + 5 * i + 1))) 1 (d (10 + 5 * i + 2))) 2 (d (10 + 5 * i + 3))) 3 (d 0))) len tc)) hw [] (by decide) rfl km_X6_heldWithin ks_X6_heldWithin q397 rfl rfl hl.1 rfl dX4_plain_89) hw [] (by decide) rfl (fun _ => rfl) (fun r_9 u_7 H locs hp_8 hw => ?_)
    have hw : WD g A s H locs [bO t 4 (tF (lad 0) ad (d 0) (d 9) (d 5) (d 6) (d 7) (d 1) (d 8)), bI g (ad 1) 10 (col d 0), bI g (ad 2) 10 (col d 1), bI g (ad 3) 10 (col d 2), bI g (ad 4) 10 (col d 3), bI g (ad 7) 3 cn, bO (lad 0) 0 ([.ref (lad 1), .ref (lad 2), .ref (lad 3)]), bR g 4 (lad 1) 14 tr, bI g (lad 2) 6 (upd (upd (upd (upd nm 0 (d (10 + 5 * i + 1))) 1 (d (10 + 5 * i + 2))) 2 (d (10 + 5 * i + 3))) 3 (d 0)), bI g (lad 3) 96 u_4, bO xa 5 ([.int ky, .int pc_, .ref ca]), bI g ca len tc, ot] := hw
    subst hp_8
    have hw : WD g A s H locs [bO t 4 (tF (lad 0) ad (d 0) (d 9) (d 5) (d 6) (d 7) (d 1) (d 8)), bI g (ad 1) 10 (col d 0), bI g (ad 2) 10 (col d 1), bI g (ad 3) 10 (col d 2), bI g (ad 4) 10 (col d 3), bI g (ad 7) 3 cn, bO (lad 0) 0 ([.ref (lad 1), .ref (lad 2), .ref (lad 3)]), bR g 4 (lad 1) 14 tr, bI g (lad 2) 6 (upd (upd (upd (upd nm 0 (d (10 + 5 * i + 1))) 1 (d (10 + 5 * i + 2))) 2 (d (10 + 5 * i + 3))) 3 (d 0)), bI g (lad 3) 96 u_4, txb] := WD.cls (pre := [bO t 4 (tF (lad 0) ad (d 0) (d 9) (d 5) (d 6) (d 7) (d 1) (d 8)), bI g (ad 1) 10 (col d 0), bI g (ad 2) 10 (col d 1), bI g (ad 3) 10 (col d 2), bI g (ad 4) 10 (col d 3), bI g (ad 7) 3 cn, bO (lad 0) 0 ([.ref (lad 1), .ref (lad 2), .ref (lad 3)]), bR g 4 (lad 1) 14 tr, bI g (lad 2) 6 (upd (upd (upd (upd nm 0 (d (10 + 5 * i + 1))) 1 (d (10 + 5 * i + 2))) 2 (d (10 + 5 * i + 3))) 3 (d 0)), bI g (lad 3) 96 u_4]) hw hperm
    exact s_iret cf hr hlk (upd (upd (upd (upd nm 0 (d (10 + 5 * i + 1))) 1 (d (10 + 5 * i + 2))) 2 (d (10 + 5 * i + 3))) 3 (d 0), u_4) hw (by show held _ 0 99 = held _ 0 99; rw [eval_fit hnmn]) (Nat.le_of_ble_eq_true rfl) (Nat.le_of_ble_eq_true rfl) dX4_plain_92 hQ
set_option maxRecDepth 100000 in
set_option maxHeartbeats 4000000 in
theorem x_slack {l : Launch} {g : GG} {t : Nat} {lad ad : Nat → Nat} {d cn : DD} {nm st_ : DD} {tr : Nat → Option Nat} {txb : va_W} {ft : TXC} (hF : FitAt g tr txb (cn 0) ft) (hFo : okF ft) (hI : InvH d) (i : Nat) (hi : i < 10) : Ct l g yX4_slack cX4_slack 2 (Option.some Jvm.ClassFile.FieldType.int) 3 0 0 [.ref t, .int (nI i)] [bO t 4 (tF (lad 0) ad (d 0) (d 9) (d 5) (d 6) (d 7) (d 1) (d 8)), bI g (ad 1) 10 (col d 0), bI g (ad 2) 10 (col d 1), bI g (ad 3) 10 (col d 2), bI g (ad 4) 10 (col d 3), bI g (ad 7) 3 cn, bO (lad 0) 0 ([.ref (lad 1), .ref (lad 2), .ref (lad 3)]), bR g 4 (lad 1) 14 tr, bI g (lad 2) 6 nm, bI g (lad 3) 96 st_, txb] (QI g (fun r (_ : DD × DD) => r = slackF ft d i) (fun u => [bO t 4 (tF (lad 0) ad (d 0) (d 9) (d 5) (d 6) (d 7) (d 1) (d 8)), bI g (ad 1) 10 (col d 0), bI g (ad 2) 10 (col d 1), bI g (ad 3) 10 (col d 2), bI g (ad 4) 10 (col d 3), bI g (ad 7) 3 cn, bO (lad 0) 0 ([.ref (lad 1), .ref (lad 2), .ref (lad 3)]), bR g 4 (lad 1) 14 tr, bI g (lad 2) 6 u.1, bI g (lad 3) 96 u.2, txb])) := by
  refine Ct.of (by decide) rfl ?_
  intro p e s m args below meth c A H locs ls Qf cf hr hlk hnm hQ hw hl
  have hx := cf.1
  have hb := cf.2.1
  have hml := cf.2.2.1
  have hown := cf.2.2.2.1
  have hts := cf.2.2.2.2
  have hw : WD g A s H locs [bO t 4 (tF (lad 0) ad (d 0) (d 9) (d 5) (d 6) (d 7) (d 1) (d 8)), bI g (ad 1) 10 (col d 0), bI g (ad 2) 10 (col d 1), bI g (ad 3) 10 (col d 2), bI g (ad 4) 10 (col d 3), bI g (ad 7) 3 cn, bO (lad 0) 0 ([.ref (lad 1), .ref (lad 2), .ref (lad 3)]), bR g 4 (lad 1) 14 tr, bI g (lad 2) 6 nm, bI g (lad 3) 96 st_, txb] := hw
  have hl : lv_has ls 2 [(0, .ref t), (1, .int (nI i))] := hl
  obtain ⟨tn, htn, etn⟩ := inv_t hI
  have hp := plain_rng (ft := ft) hI i
  have ho : 0 ≤ onesF (d 5 &&& (((1 : Int32) <<< (nI i &&& 31)) ^^^ (-1))) ∧ onesF (d 5 &&& (((1 : Int32) <<< (nI i &&& 31)) ^^^ (-1))) ≤ 10 := by rw [etn]; exact (ones_rng htn _).2
  have hl9 := held_rng (plainF ft d i + 2 * onesF (d 5 &&& (((1 : Int32) <<< (nI i &&& 31)) ^^^ (-1)))) 99 (by decide)
  refine lv_aload_n hx hb dX4_slack_0 rfl (lv_at hl 0 rfl) ?_
  refine s_get (v := .ref (ad 1)) fb4 cf hw 0 rfl 1 rfl q155 rfl dX4_slack_1 ?_
  refine lv_iload_n hx hb dX4_slack_4 rfl (lv_at hl 1 rfl) ?_
  refine s_iald (j := i) cf hw 1 rfl (rfl) (by omega) rfl dX4_slack_5 ?_
  refine lv_topr (y := d (10 + 5 * i + 0)) (rfl) ?_
  by_cases t6_1 : d (10 + 5 * i + 0) = 1
  · refine lv_tableIn (tgt := 40) (off := 34) hx hb dX4_slack_6 (by rw [t6_1]; decide) (by rw [t6_1]; decide) (by rw [t6_1]; decide) (by decide) ?_
    refine lv_aload_n hx hb dX4_slack_40 rfl (lv_at hl 0 rfl) ?_
    refine lv_iload_n hx hb dX4_slack_41 rfl (lv_at hl 1 rfl) ?_
    refine s_calli (runV cf (x_plain (t := t) (lad := lad) (ad := ad) (d := d) (cn := cn) (nm := nm) (st_ := st_) (tr := tr) (txb := txb) (ft := ft) hF hFo hI i (by omega)) hw [0, 1, 2, 3, 4, 5, 6, 7, 8, 9, 10] (by decide) rfl km_X4_plain ki_X4_plain q375 (run_recv (ci := 4) (T := TX4) (N := 15) hw 0 rfl rfl) rfl rfl hl.1 rfl dX4_slack_42) hw [0, 1, 2, 3, 4, 5, 6, 7, 8, 9, 10] (by decide) rfl (fun _ => rfl) (fun r_3 u_1 H locs hp_2 hw => ?_)
    have hw : WD g A s H locs [bO t 4 (tF (lad 0) ad (d 0) (d 9) (d 5) (d 6) (d 7) (d 1) (d 8)), bI g (ad 1) 10 (col d 0), bI g (ad 2) 10 (col d 1), bI g (ad 3) 10 (col d 2), bI g (ad 4) 10 (col d 3), bI g (ad 7) 3 cn, bO (lad 0) 0 ([.ref (lad 1), .ref (lad 2), .ref (lad 3)]), bR g 4 (lad 1) 14 tr, bI g (lad 2) 6 u_1.1, bI g (lad 3) 96 u_1.2, txb] := hw
    subst hp_2
    refine lv_iconst (v := 2) hx hb dX4_slack_45 (by decide) ?_
    refine lv_idiv hx hb dX4_slack_46 (by decide) ?_
    exact s_iret cf hr hlk (u_1.1, u_1.2) hw (by unfold slackF; rw [if_pos t6_1]) (Nat.le_of_ble_eq_true rfl) (Nat.le_of_ble_eq_true rfl) dX4_slack_47 hQ
  by_cases t6_2 : d (10 + 5 * i + 0) = 2
  · refine lv_tableIn (tgt := 62) (off := 56) hx hb dX4_slack_6 (by rw [t6_2]; decide) (by rw [t6_2]; decide) (by rw [t6_2]; decide) (by decide) ?_
    refine lv_bipush (v := 99) hx hb dX4_slack_62 (by decide) ?_
    refine lv_aload_n hx hb dX4_slack_64 rfl (lv_at hl 0 rfl) ?_
    refine lv_iload_n hx hb dX4_slack_65 rfl (lv_at hl 1 rfl) ?_
    refine s_calli (runV cf (x_plain (t := t) (lad := lad) (ad := ad) (d := d) (cn := cn) (nm := nm) (st_ := st_) (tr := tr) (txb := txb) (ft := ft) hF hFo hI i (by omega)) hw [0, 1, 2, 3, 4, 5, 6, 7, 8, 9, 10] (by decide) rfl km_X4_plain ki_X4_plain q375 (run_recv (ci := 4) (T := TX4) (N := 15) hw 0 rfl rfl) rfl rfl hl.1 rfl dX4_slack_66) hw [0, 1, 2, 3, 4, 5, 6, 7, 8, 9, 10] (by decide) rfl (fun _ => rfl) (fun r_6 u_4 H locs hp_5 hw => ?_)
    have hw : WD g A s H locs [bO t 4 (tF (lad 0) ad (d 0) (d 9) (d 5) (d 6) (d 7) (d 1) (d 8)), bI g (ad 1) 10 (col d 0), bI g (ad 2) 10 (col d 1), bI g (ad 3) 10 (col d 2), bI g (ad 4) 10 (col d 3), bI g (ad 7) 3 cn, bO (lad 0) 0 ([.ref (lad 1), .ref (lad 2), .ref (lad 3)]), bR g 4 (lad 1) 14 tr, bI g (lad 2) 6 u_4.1, bI g (lad 3) 96 u_4.2, txb] := hw
    subst hp_5
    refine lv_aload_n hx hb dX4_slack_69 rfl (lv_at hl 0 rfl) ?_
    refine lv_iload_n hx hb dX4_slack_70 rfl (lv_at hl 1 rfl) ?_
    refine s_calli (runV cf (x_tuneBeside (cn := cn) (lad := lad) (ad := ad) (d := d) (t := t) i hI) hw [0] (by decide) rfl km_X4_tuneBeside ki_X4_tuneBeside q407 (run_recv (ci := 4) (T := TX4) (N := 15) hw 0 rfl rfl) rfl rfl hl.1 rfl dX4_slack_71) hw [0] (by decide) rfl (fun _ => rfl) (fun r_9 u_7 H locs hp_8 hw => ?_)
    have hw : WD g A s H locs [bO t 4 (tF (lad 0) ad (d 0) (d 9) (d 5) (d 6) (d 7) (d 1) (d 8)), bI g (ad 1) 10 (col d 0), bI g (ad 2) 10 (col d 1), bI g (ad 3) 10 (col d 2), bI g (ad 4) 10 (col d 3), bI g (ad 7) 3 cn, bO (lad 0) 0 ([.ref (lad 1), .ref (lad 2), .ref (lad 3)]), bR g 4 (lad 1) 14 tr, bI g (lad 2) 6 u_4.1, bI g (lad 3) 96 u_4.2, txb] := hw
    subst hp_8
    refine lv_iadd hx hb dX4_slack_74 ?_
    refine va_mmin hx hb (by rw [hml]; exact hl.1.symm) hown (hts _ q417) (hts _ ks_J9_min_7cf53) (hts _ km_J9_min_7cf53.1) (hts _ km_J9_min_7cf53.2.1) (Nat.le_of_ble_eq_true rfl) (Nat.le_of_ble_eq_true rfl) (Nat.le_of_ble_eq_true rfl) (Nat.le_of_ble_eq_true rfl) dX4_slack_75 ?_
    exact s_iret cf hr hlk (u_4.1, u_4.2) hw (by unfold slackF; rw [if_neg t6_1, if_pos t6_2]; exact sl_lodg hp.1 hp.2 ho.1 ho.2) (Nat.le_of_ble_eq_true rfl) (Nat.le_of_ble_eq_true rfl) dX4_slack_78 hQ
  by_cases t6_3 : d (10 + 5 * i + 0) = 3
  · refine lv_tableIn (tgt := 48) (off := 42) hx hb dX4_slack_6 (by rw [t6_3]; decide) (by rw [t6_3]; decide) (by rw [t6_3]; decide) (by decide) ?_
    refine lv_iconst (v := 0) hx hb dX4_slack_48 (by decide) ?_
    refine lv_aload_n hx hb dX4_slack_49 rfl (lv_at hl 0 rfl) ?_
    refine lv_iload_n hx hb dX4_slack_50 rfl (lv_at hl 1 rfl) ?_
    refine s_calli (runV cf (x_plain (t := t) (lad := lad) (ad := ad) (d := d) (cn := cn) (nm := nm) (st_ := st_) (tr := tr) (txb := txb) (ft := ft) hF hFo hI i (by omega)) hw [0, 1, 2, 3, 4, 5, 6, 7, 8, 9, 10] (by decide) rfl km_X4_plain ki_X4_plain q375 (run_recv (ci := 4) (T := TX4) (N := 15) hw 0 rfl rfl) rfl rfl hl.1 rfl dX4_slack_51) hw [0, 1, 2, 3, 4, 5, 6, 7, 8, 9, 10] (by decide) rfl (fun _ => rfl) (fun r_12 u_10 H locs hp_11 hw => ?_)
    have hw : WD g A s H locs [bO t 4 (tF (lad 0) ad (d 0) (d 9) (d 5) (d 6) (d 7) (d 1) (d 8)), bI g (ad 1) 10 (col d 0), bI g (ad 2) 10 (col d 1), bI g (ad 3) 10 (col d 2), bI g (ad 4) 10 (col d 3), bI g (ad 7) 3 cn, bO (lad 0) 0 ([.ref (lad 1), .ref (lad 2), .ref (lad 3)]), bR g 4 (lad 1) 14 tr, bI g (lad 2) 6 u_10.1, bI g (lad 3) 96 u_10.2, txb] := hw
    subst hp_11
    refine lv_iconst (v := 2) hx hb dX4_slack_54 (by decide) ?_
    refine lv_idiv hx hb dX4_slack_55 (by decide) ?_
    refine lv_iconst (v := 5) hx hb dX4_slack_56 (by decide) ?_
    refine lv_isub hx hb dX4_slack_57 ?_
    refine va_mmax hx hb (by rw [hml]; exact hl.1.symm) hown (hts _ q406) (hts _ ks_J9_max_7cf53) (hts _ km_J9_max_7cf53.1) (hts _ km_J9_max_7cf53.2.1) (Nat.le_of_ble_eq_true rfl) (Nat.le_of_ble_eq_true rfl) (Nat.le_of_ble_eq_true rfl) (Nat.le_of_ble_eq_true rfl) dX4_slack_58 ?_
    exact s_iret cf hr hlk (u_10.1, u_10.2) hw (by unfold slackF; rw [if_neg t6_1, if_neg t6_2, if_pos t6_3]; exact sl_manse hp.1 hp.2) (Nat.le_of_ble_eq_true rfl) (Nat.le_of_ble_eq_true rfl) dX4_slack_61 hQ
  by_cases t6_4 : d (10 + 5 * i + 0) = 4
  · refine lv_tableIn (tgt := 79) (off := 73) hx hb dX4_slack_6 (by rw [t6_4]; decide) (by rw [t6_4]; decide) (by rw [t6_4]; decide) (by decide) ?_
    refine lv_bipush (v := 99) hx hb dX4_slack_79 (by decide) ?_
    refine lv_bipush (v := 99) hx hb dX4_slack_81 (by decide) ?_
    refine lv_aload_n hx hb dX4_slack_83 rfl (lv_at hl 0 rfl) ?_
    refine lv_iload_n hx hb dX4_slack_84 rfl (lv_at hl 1 rfl) ?_
    refine s_calli (runV cf (x_plain (t := t) (lad := lad) (ad := ad) (d := d) (cn := cn) (nm := nm) (st_ := st_) (tr := tr) (txb := txb) (ft := ft) hF hFo hI i (by omega)) hw [0, 1, 2, 3, 4, 5, 6, 7, 8, 9, 10] (by decide) rfl km_X4_plain ki_X4_plain q375 (run_recv (ci := 4) (T := TX4) (N := 15) hw 0 rfl rfl) rfl rfl hl.1 rfl dX4_slack_85) hw [0, 1, 2, 3, 4, 5, 6, 7, 8, 9, 10] (by decide) rfl (fun _ => rfl) (fun r_15 u_13 H locs hp_14 hw => ?_)
    have hw : WD g A s H locs [bO t 4 (tF (lad 0) ad (d 0) (d 9) (d 5) (d 6) (d 7) (d 1) (d 8)), bI g (ad 1) 10 (col d 0), bI g (ad 2) 10 (col d 1), bI g (ad 3) 10 (col d 2), bI g (ad 4) 10 (col d 3), bI g (ad 7) 3 cn, bO (lad 0) 0 ([.ref (lad 1), .ref (lad 2), .ref (lad 3)]), bR g 4 (lad 1) 14 tr, bI g (lad 2) 6 u_13.1, bI g (lad 3) 96 u_13.2, txb] := hw
    subst hp_14
    refine lv_aload_n hx hb dX4_slack_88 rfl (lv_at hl 0 rfl) ?_
    refine lv_iload_n hx hb dX4_slack_89 rfl (lv_at hl 1 rfl) ?_
    refine s_calli (runV cf (x_tuneBeside (cn := cn) (lad := lad) (ad := ad) (d := d) (t := t) i hI) hw [0] (by decide) rfl km_X4_tuneBeside ki_X4_tuneBeside q407 (run_recv (ci := 4) (T := TX4) (N := 15) hw 0 rfl rfl) rfl rfl hl.1 rfl dX4_slack_90) hw [0] (by decide) rfl (fun _ => rfl) (fun r_18 u_16 H locs hp_17 hw => ?_)
    have hw : WD g A s H locs [bO t 4 (tF (lad 0) ad (d 0) (d 9) (d 5) (d 6) (d 7) (d 1) (d 8)), bI g (ad 1) 10 (col d 0), bI g (ad 2) 10 (col d 1), bI g (ad 3) 10 (col d 2), bI g (ad 4) 10 (col d 3), bI g (ad 7) 3 cn, bO (lad 0) 0 ([.ref (lad 1), .ref (lad 2), .ref (lad 3)]), bR g 4 (lad 1) 14 tr, bI g (lad 2) 6 u_13.1, bI g (lad 3) 96 u_13.2, txb] := hw
    subst hp_17
    refine lv_iadd hx hb dX4_slack_93 ?_
    refine va_mmin hx hb (by rw [hml]; exact hl.1.symm) hown (hts _ q417) (hts _ ks_J9_min_7cf53) (hts _ km_J9_min_7cf53.1) (hts _ km_J9_min_7cf53.2.1) (Nat.le_of_ble_eq_true rfl) (Nat.le_of_ble_eq_true rfl) (Nat.le_of_ble_eq_true rfl) (Nat.le_of_ble_eq_true rfl) dX4_slack_94 ?_
    refine lv_bipush (v := 10) hx hb dX4_slack_97 (by decide) ?_
    refine lv_iadd hx hb dX4_slack_99 ?_
    refine va_mmin hx hb (by rw [hml]; exact hl.1.symm) hown (hts _ q417) (hts _ ks_J9_min_7cf53) (hts _ km_J9_min_7cf53.1) (hts _ km_J9_min_7cf53.2.1) (Nat.le_of_ble_eq_true rfl) (Nat.le_of_ble_eq_true rfl) (Nat.le_of_ble_eq_true rfl) (Nat.le_of_ble_eq_true rfl) dX4_slack_100 ?_
    exact s_iret cf hr hlk (u_13.1, u_13.2) hw (by unfold slackF; rw [if_neg t6_1, if_neg t6_2, if_neg t6_3, if_pos t6_4]; rw [sl_lodg hp.1 hp.2 ho.1 ho.2]; exact sl_club hl9.1 hl9.2) (Nat.le_of_ble_eq_true rfl) (Nat.le_of_ble_eq_true rfl) dX4_slack_103 hQ
  by_cases t6_5 : d (10 + 5 * i + 0) = 5
  · refine lv_tableIn (tgt := 104) (off := 98) hx hb dX4_slack_6 (by rw [t6_5]; decide) (by rw [t6_5]; decide) (by rw [t6_5]; decide) (by decide) ?_
    refine lv_bipush (v := 50) hx hb dX4_slack_104 (by decide) ?_
    exact s_iret cf hr hlk (nm, st_) hw (by unfold slackF; rw [if_neg t6_1, if_neg t6_2, if_neg t6_3, if_neg t6_4, if_pos t6_5]) (Nat.le_of_ble_eq_true rfl) (Nat.le_of_ble_eq_true rfl) dX4_slack_106 hQ
  refine lv_tableOut (tgt := 107) hx hb dX4_slack_6 (by have e0 := lv_neT t6_1 (show (1 : Int32).toInt = 1 from rfl); have e1 := lv_neT t6_2 (show (2 : Int32).toInt = 2 from rfl); have e2 := lv_neT t6_3 (show (3 : Int32).toInt = 3 from rfl); have e3 := lv_neT t6_4 (show (4 : Int32).toInt = 4 from rfl); have e4 := lv_neT t6_5 (show (5 : Int32).toInt = 5 from rfl); omega) (by decide) ?_
  refine lv_aload_n hx hb dX4_slack_107 rfl (lv_at hl 0 rfl) ?_
  refine lv_iload_n hx hb dX4_slack_108 rfl (lv_at hl 1 rfl) ?_
  refine s_calli (runV cf (x_plain (t := t) (lad := lad) (ad := ad) (d := d) (cn := cn) (nm := nm) (st_ := st_) (tr := tr) (txb := txb) (ft := ft) hF hFo hI i (by omega)) hw [0, 1, 2, 3, 4, 5, 6, 7, 8, 9, 10] (by decide) rfl km_X4_plain ki_X4_plain q375 (run_recv (ci := 4) (T := TX4) (N := 15) hw 0 rfl rfl) rfl rfl hl.1 rfl dX4_slack_109) hw [0, 1, 2, 3, 4, 5, 6, 7, 8, 9, 10] (by decide) rfl (fun _ => rfl) (fun r_21 u_19 H locs hp_20 hw => ?_)
  have hw : WD g A s H locs [bO t 4 (tF (lad 0) ad (d 0) (d 9) (d 5) (d 6) (d 7) (d 1) (d 8)), bI g (ad 1) 10 (col d 0), bI g (ad 2) 10 (col d 1), bI g (ad 3) 10 (col d 2), bI g (ad 4) 10 (col d 3), bI g (ad 7) 3 cn, bO (lad 0) 0 ([.ref (lad 1), .ref (lad 2), .ref (lad 3)]), bR g 4 (lad 1) 14 tr, bI g (lad 2) 6 u_19.1, bI g (lad 3) 96 u_19.2, txb] := hw
  subst hp_20
  exact s_iret cf hr hlk (u_19.1, u_19.2) hw (by unfold slackF; rw [if_neg t6_1, if_neg t6_2, if_neg t6_3, if_neg t6_4, if_neg t6_5]) (Nat.le_of_ble_eq_true rfl) (Nat.le_of_ble_eq_true rfl) dX4_slack_112 hQ
