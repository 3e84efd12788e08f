set_option maxRecDepth 100000 in
set_option maxHeartbeats 4000000 in
theorem i_laws {l : Launch} {g : GG} {a_ : Nat} : Ct l g yX0_init cX0_init 1 (Option.none : Option Jvm.ClassFile.FieldType) 2 3 116 [.ref a_] [bO a_ 0 ([.null, .null, .null])] (QV g (fun (_ : Nat × Nat × Nat) => True) (fun u => [bO a_ 0 ([.ref u.1, .ref u.2.1, .ref u.2.2]) ++ bR g 4 u.1 14 (fun _ => none) ++ bI g u.2.1 6 (fun _ => 0) ++ bI g u.2.2 96 (fun _ => 0)])) := by
  refine Ct.of (by decide) rfl ?_
  intro p e s m args below meth c A H locs ls Qf cf hr hlk hnm hQ hw hl
  have hx := cf.1
  have hb := cf.2.1
  have hml := cf.2.2.1
  have hown := cf.2.2.2.1
  have hts := cf.2.2.2.2
  have hw : WD g A s H locs [bO a_ 0 ([.null, .null, .null])] := hw
  have hl : lv_has ls 1 [(0, .ref a_)] := hl
  refine lv_aload_n hx hb dX0_init_0 rfl (lv_at hl 0 rfl) ?_
  refine W.objInit hx hb hown (hts _ q109) (hts _ (gw_mem 102 rfl rfl)) (hts _ (gw_mem 103 rfl rfl)) rfl (by rw [hml]; exact hl.1) rfl dX0_init_1 (Nat.le_of_ble_eq_true rfl) (Nat.le_of_ble_eq_true rfl) ?_
  refine W.eq (g2 := F0 m 4 ls []) rfl ?_
  refine lv_aload_n hx hb dX0_init_4 rfl (lv_at hl 0 rfl) ?_
  refine lv_bipush (v := 14) hx hb dX0_init_5 (by decide) ?_
  refine s_newq (N := 14) 4 rfl cf hw hw.2.2.2.2.2.2.2.1.2.2 q110 rfl rfl (Nat.le_of_ble_eq_true rfl) (Nat.le_of_ble_eq_true rfl) dX0_init_7 (fun nw_1 H hw => ?_)
  have hw : WD g A s H locs [bO a_ 0 ([.null, .null, .null]), bR g 4 nw_1 14 (fun _ => none)] := hw
  refine s_putF (v := .ref nw_1) fb0 cf hw 0 rfl 0 rfl q123 rfl hnm rfl rfl rfl rfl dX0_init_10 (fun H locs hw => ?_)
  have hw : WD g A s H locs [bO a_ 0 ([.ref nw_1, .null, .null]), bR g 4 nw_1 14 (fun _ => none)] := hw
  refine lv_aload_n hx hb dX0_init_13 rfl (lv_at hl 0 rfl) ?_
  refine va_ldcS hx hb hown hw.2.2.2.2.2.2.2.2.2.2.2.2.2.1.1 dX0_init_14 ?_
  refine lv_topv (y := .ref (g.2.2 (10 + 0))) rfl ?_
  refine s_calli (runV cf (j_len (i := 0) (by decide)) hw [] (by decide) rfl km_J0_length_8abf5 ki_J0_length_8abf5 q113 (vk_recv hw.2.2.2.2.2.2.2.2.2.2.2.2.2.2 (i := 0) (by omega) hw.2.2.2.1) rfl rfl hl.1 rfl dX0_init_16) hw [] (by decide) rfl (fun _ => rfl) (fun r_4 u_2 H locs hp_3 hw => ?_)
  have hw : WD g A s H locs [bO a_ 0 ([.ref nw_1, .null, .null]), bR g 4 nw_1 14 (fun _ => none)] := hw
  subst hp_3
  refine lv_topr (y := 6) (rfl) ?_
  refine s_newi (N := 6) cf hw (rfl) rfl (Nat.le_of_ble_eq_true rfl) (Nat.le_of_ble_eq_true rfl) dX0_init_19 (fun nw_5 H hw => ?_)
  have hw : WD g A s H locs [bO a_ 0 ([.ref nw_1, .null, .null]), bR g 4 nw_1 14 (fun _ => none), bI g nw_5 6 (fun _ => 0)] := hw
  refine s_putF (v := .ref nw_5) fb0 cf hw 0 rfl 1 rfl q125 rfl hnm rfl rfl rfl rfl dX0_init_21 (fun H locs hw => ?_)
  have hw : WD g A s H locs [bO a_ 0 ([.ref nw_1, .ref nw_5, .null]), bR g 4 nw_1 14 (fun _ => none), bI g nw_5 6 (fun _ => 0)] := hw
  refine lv_aload_n hx hb dX0_init_24 rfl (lv_at hl 0 rfl) ?_
  refine lv_bipush (v := 96) hx hb dX0_init_25 (by decide) ?_
  refine s_newi (N := 96) cf hw (rfl) rfl (Nat.le_of_ble_eq_true rfl) (Nat.le_of_ble_eq_true rfl) dX0_init_27 (fun nw_6 H hw => ?_)
  have hw : WD g A s H locs [bO a_ 0 ([.ref nw_1, .ref nw_5, .null]), bR g 4 nw_1 14 (fun _ => none), bI g nw_5 6 (fun _ => 0), bI g nw_6 96 (fun _ => 0)] := hw
  refine s_putF (v := .ref nw_6) fb0 cf hw 0 rfl 2 rfl q127 rfl hnm rfl rfl rfl rfl dX0_init_29 (fun H locs hw => ?_)
  have hw : WD g A s H locs [bO a_ 0 ([.ref nw_1, .ref nw_5, .ref nw_6]), bR g 4 nw_1 14 (fun _ => none), bI g nw_5 6 (fun _ => 0), bI g nw_6 96 (fun _ => 0)] := hw
  exact s_vret cf hr hlk (nw_1, nw_5, nw_6) (hw.re rfl) trivial (Nat.le_of_ble_eq_true rfl) (Nat.le_of_ble_eq_true rfl) dX0_init_32 hQ
set_option maxRecDepth 100000 in
set_option maxHeartbeats 4000000 in
theorem i_reader {l : Launch} {g : GG} {a_ : Nat} : Ct l g yX1_init cX1_init 1 (Option.none : Option Jvm.ClassFile.FieldType) 1 2 192 [.ref a_] [bO a_ 1 ([.null, .null, .int 0, .int 0, .int 0, .int 0, .int 0, .int 0])] (QV g (fun (_ : Nat × Nat) => True) (fun u => [bO a_ 1 ([.ref u.1, .ref u.2, .int 0, .int 0, .int 0, .int 0, .int 0, .int 0]) ++ bI g u.1 96 (fun _ => 0) ++ bI g u.2 96 (fun _ => 0)])) := by
  refine Ct.of (by decide) rfl ?_
  intro p e s m args below meth c A H locs ls Qf cf hr hlk hnm hQ hw hl
  have hx := cf.1
  have hb := cf.2.1
  have hml := cf.2.2.1
  have hown := cf.2.2.2.1
  have hts := cf.2.2.2.2
  have hw : WD g A s H locs [bO a_ 1 ([.null, .null, .int 0, .int 0, .int 0, .int 0, .int 0, .int 0])] := hw
  have hl : lv_has ls 1 [(0, .ref a_)] := hl
  refine lv_aload_n hx hb dX1_init_0 rfl (lv_at hl 0 rfl) ?_
  refine W.objInit hx hb hown (hts _ q222) (hts _ (gw_mem 102 rfl rfl)) (hts _ (gw_mem 103 rfl rfl)) rfl (by rw [hml]; exact hl.1) rfl dX1_init_1 (Nat.le_of_ble_eq_true rfl) (Nat.le_of_ble_eq_true rfl) ?_
  refine W.eq (g2 := F0 m 4 ls []) rfl ?_
  refine lv_aload_n hx hb dX1_init_4 rfl (lv_at hl 0 rfl) ?_
  refine lv_bipush (v := 96) hx hb dX1_init_5 (by decide) ?_
  refine s_newi (N := 96) cf hw (rfl) rfl (Nat.le_of_ble_eq_true rfl) (Nat.le_of_ble_eq_true rfl) dX1_init_7 (fun nw_1 H hw => ?_)
  have hw : WD g A s H locs [bO a_ 1 ([.null, .null, .int 0, .int 0, .int 0, .int 0, .int 0, .int 0]), bI g nw_1 96 (fun _ => 0)] := hw
  refine s_putF (v := .ref nw_1) fb1 cf hw 0 rfl 0 rfl q223 rfl hnm rfl rfl rfl rfl dX1_init_9 (fun H locs hw => ?_)
  have hw : WD g A s H locs [bO a_ 1 ([.ref nw_1, .null, .int 0, .int 0, .int 0, .int 0, .int 0, .int 0]), bI g nw_1 96 (fun _ => 0)] := hw
  refine lv_aload_n hx hb dX1_init_12 rfl (lv_at hl 0 rfl) ?_
  refine lv_bipush (v := 96) hx hb dX1_init_13 (by decide) ?_
  refine s_newi (N := 96) cf hw (rfl) rfl (Nat.le_of_ble_eq_true rfl) (Nat.le_of_ble_eq_true rfl) dX1_init_15 (fun nw_2 H hw => ?_)
  have hw : WD g A s H locs [bO a_ 1 ([.ref nw_1, .null, .int 0, .int 0, .int 0, .int 0, .int 0, .int 0]), bI g nw_1 96 (fun _ => 0), bI g nw_2 96 (fun _ => 0)] := hw
  refine s_putF (v := .ref nw_2) fb1 cf hw 0 rfl 1 rfl q224 rfl hnm rfl rfl rfl rfl dX1_init_17 (fun H locs hw => ?_)
  have hw : WD g A s H locs [bO a_ 1 ([.ref nw_1, .ref nw_2, .int 0, .int 0, .int 0, .int 0, .int 0, .int 0]), bI g nw_1 96 (fun _ => 0), bI g nw_2 96 (fun _ => 0)] := hw
  exact s_vret cf hr hlk (nw_1, nw_2) (hw.re rfl) trivial (Nat.le_of_ble_eq_true rfl) (Nat.le_of_ble_eq_true rfl) dX1_init_20 hQ
set_option maxRecDepth 100000 in
set_option maxHeartbeats 4000000 in
theorem i_terr {l : Launch} {g : GG} {a_ la_ : Nat} : Ct l g yX4_init cX4_init 2 (Option.none : Option Jvm.ClassFile.FieldType) 1 7 56 [.ref a_, .ref la_] [bO a_ 4 ([.null, .null, .null, .null, .null, .null, .null, .null, .int 0, .int 0, .int 0, .int 0, .int 0, .int 0, .int 0])] (QV g (fun (_ : Nat → Nat) => True) (fun u => [bO a_ 4 ([.ref la_, .ref (u 1), .ref (u 2), .ref (u 3), .ref (u 4), .ref (u 5), .ref (u 6), .ref (u 7), .int 0, .int 0, .int 0, .int 0, .int 0, .int 0, .int 1]) ++ bI g (u 1) 10 (fun _ => 0) ++ bI g (u 2) 10 (fun _ => 0) ++ bI g (u 3) 10 (fun _ => 0) ++ bI g (u 4) 10 (fun _ => 0) ++ bI g (u 5) 10 (fun _ => 0) ++ bI g (u 6) 3 frF ++ bI g (u 7) 3 (upd (upd (upd (fun _ => 0) 0 (-1000000005)) 1 (-1000000005)) 2 (-1000000005))])) := by
  refine Ct.of (by decide) rfl ?_
  intro p e s m args below meth c A H locs ls Qf cf hr hlk hnm hQ hw hl
  have hx := cf.1
  have hb := cf.2.1
  have hml := cf.2.2.1
  have hown := cf.2.2.2.1
  have hts := cf.2.2.2.2
  have hw : WD g A s H locs [bO a_ 4 ([.null, .null, .null, .null, .null, .null, .null, .null, .int 0, .int 0, .int 0, .int 0, .int 0, .int 0, .int 0])] := hw
  have hl : lv_has ls 2 [(0, .ref a_), (1, .ref la_)] := hl
  refine lv_aload_n hx hb dX4_init_0 rfl (lv_at hl 0 rfl) ?_
  refine W.objInit hx hb hown (hts _ q143) (hts _ (gw_mem 102 rfl rfl)) (hts _ (gw_mem 103 rfl rfl)) rfl (by rw [hml]; exact hl.1) rfl dX4_init_1 (Nat.le_of_ble_eq_true rfl) (Nat.le_of_ble_eq_true rfl) ?_
  refine W.eq (g2 := F0 m 4 ls []) rfl ?_
  refine lv_aload_n hx hb dX4_init_4 rfl (lv_at hl 0 rfl) ?_
  refine lv_bipush (v := 10) hx hb dX4_init_5 (by decide) ?_
  refine s_newi (N := 10) cf hw (rfl) rfl (Nat.le_of_ble_eq_true rfl) (Nat.le_of_ble_eq_true rfl) dX4_init_7 (fun nw_1 H hw => ?_)
  have hw : WD g A s H locs [bO a_ 4 ([.null, .null, .null, .null, .null, .null, .null, .null, .int 0, .int 0, .int 0, .int 0, .int 0, .int 0, .int 0]), bI g nw_1 10 (fun _ => 0)] := hw
  refine s_putF (v := .ref nw_1) fb4 cf hw 0 rfl 1 rfl q155 rfl hnm rfl rfl rfl rfl dX4_init_9 (fun H locs hw => ?_)
  have hw : WD g A s H locs [bO a_ 4 ([.null, .ref nw_1, .null, .null, .null, .null, .null, .null, .int 0, .int 0, .int 0, .int 0, .int 0, .int 0, .int 0]), bI g nw_1 10 (fun _ => 0)] := hw
  refine lv_aload_n hx hb dX4_init_12 rfl (lv_at hl 0 rfl) ?_
  refine lv_bipush (v := 10) hx hb dX4_init_13 (by decide) ?_
  refine s_newi (N := 10) cf hw (rfl) rfl (Nat.le_of_ble_eq_true rfl) (Nat.le_of_ble_eq_true rfl) dX4_init_15 (fun nw_2 H hw => ?_)
  have hw : WD g A s H locs [bO a_ 4 ([.null, .ref nw_1, .null, .null, .null, .null, .null, .null, .int 0, .int 0, .int 0, .int 0, .int 0, .int 0, .int 0]), bI g nw_1 10 (fun _ => 0), bI g nw_2 10 (fun _ => 0)] := hw
  refine s_putF (v := .ref nw_2) fb4 cf hw 0 rfl 2 rfl q158 rfl hnm rfl rfl rfl rfl dX4_init_17 (fun H locs hw => ?_)
  have hw : WD g A s H locs [bO a_ 4 ([.null, .ref nw_1, .ref nw_2, .null, .null, .null, .null, .null, .int 0, .int 0, .int 0, .int 0, .int 0, .int 0, .int 0]), bI g nw_1 10 (fun _ => 0), bI g nw_2 10 (fun _ => 0)] := hw
  refine lv_aload_n hx hb dX4_init_20 rfl (lv_at hl 0 rfl) ?_
  refine lv_bipush (v := 10) hx hb dX4_init_21 (by decide) ?_
  refine s_newi (N := 10) cf hw (rfl) rfl (Nat.le_of_ble_eq_true rfl) (Nat.le_of_ble_eq_true rfl) dX4_init_23 (fun nw_3 H hw => ?_)
  have hw : WD g A s H locs [bO a_ 4 ([.null, .ref nw_1, .ref nw_2, .null, .null, .null, .null, .null, .int 0, .int 0, .int 0, .int 0, .int 0, .int 0, .int 0]), bI g nw_1 10 (fun _ => 0), bI g nw_2 10 (fun _ => 0), bI g nw_3 10 (fun _ => 0)] := hw
  refine s_putF (v := .ref nw_3) fb4 cf hw 0 rfl 3 rfl q161 rfl hnm rfl rfl rfl rfl dX4_init_25 (fun H locs hw => ?_)
  have hw : WD g A s H locs [bO a_ 4 ([.null, .ref nw_1, .ref nw_2, .ref nw_3, .null, .null, .null, .null, .int 0, .int 0, .int 0, .int 0, .int 0, .int 0, .int 0]), bI g nw_1 10 (fun _ => 0), bI g nw_2 10 (fun _ => 0), bI g nw_3 10 (fun _ => 0)] := hw
  refine lv_aload_n hx hb dX4_init_28 rfl (lv_at hl 0 rfl) ?_
  refine lv_bipush (v := 10) hx hb dX4_init_29 (by decide) ?_
  refine s_newi (N := 10) cf hw (rfl) rfl (Nat.le_of_ble_eq_true rfl) (Nat.le_of_ble_eq_true rfl) dX4_init_31 (fun nw_4 H hw => ?_)
  have hw : WD g A s H locs [bO a_ 4 ([.null, .ref nw_1, .ref nw_2, .ref nw_3, .null, .null, .null, .null, .int 0, .int 0, .int 0, .int 0, .int 0, .int 0, .int 0]), bI g nw_1 10 (fun _ => 0), bI g nw_2 10 (fun _ => 0), bI g nw_3 10 (fun _ => 0), bI g nw_4 10 (fun _ => 0)] := hw
  refine s_putF (v := .ref nw_4) fb4 cf hw 0 rfl 4 rfl q163 rfl hnm rfl rfl rfl rfl dX4_init_33 (fun H locs hw => ?_)
  have hw : WD g A s H locs [bO a_ 4 ([.null, .ref nw_1, .ref nw_2, .ref nw_3, .ref nw_4, .null, .null, .null, .int 0, .int 0, .int 0, .int 0, .int 0, .int 0, .int 0]), bI g nw_1 10 (fun _ => 0), bI g nw_2 10 (fun _ => 0), bI g nw_3 10 (fun _ => 0), bI g nw_4 10 (fun _ => 0)] := hw
  refine lv_aload_n hx hb dX4_init_36 rfl (lv_at hl 0 rfl) ?_
  refine lv_bipush (v := 10) hx hb dX4_init_37 (by decide) ?_
  refine s_newi (N := 10) cf hw (rfl) rfl (Nat.le_of_ble_eq_true rfl) (Nat.le_of_ble_eq_true rfl) dX4_init_39 (fun nw_5 H hw => ?_)
  have hw : WD g A s H locs [bO a_ 4 ([.null, .ref nw_1, .ref nw_2, .ref nw_3, .ref nw_4, .null, .null, .null, .int 0, .int 0, .int 0, .int 0, .int 0, .int 0, .int 0]), bI g nw_1 10 (fun _ => 0), bI g nw_2 10 (fun _ => 0), bI g nw_3 10 (fun _ => 0), bI g nw_4 10 (fun _ => 0), bI g nw_5 10 (fun _ => 0)] := hw
  refine s_putF (v := .ref nw_5) fb4 cf hw 0 rfl 5 rfl q166 rfl hnm rfl rfl rfl rfl dX4_init_41 (fun H locs hw => ?_)
  have hw : WD g A s H locs [bO a_ 4 ([.null, .ref nw_1, .ref nw_2, .ref nw_3, .ref nw_4, .ref nw_5, .null, .null, .int 0, .int 0, .int 0, .int 0, .int 0, .int 0, .int 0]), bI g nw_1 10 (fun _ => 0), bI g nw_2 10 (fun _ => 0), bI g nw_3 10 (fun _ => 0), bI g nw_4 10 (fun _ => 0), bI g nw_5 10 (fun _ => 0)] := hw
  refine lv_aload_n hx hb dX4_init_44 rfl (lv_at hl 0 rfl) ?_
  refine va_getsN hx hb (hw.2.2.2.2.2.2.2.2.1.1).1 hw.2.2.2.1 hown (va_Nw.use rfl (hw.2.2.2.2.2.1 _ q144 rfl)) (fun _ h => h) dX4_init_45 ?_
  refine s_clonefr cf (by rw [hml]; exact hl.1.symm) hw q146 (Nat.le_of_ble_eq_true rfl) (Nat.le_of_ble_eq_true rfl) (Nat.le_of_ble_eq_true rfl) (Nat.le_of_ble_eq_true rfl) dX4_init_48 (fun nw_6 H hw => ?_)
  have hw : WD g A s H locs [bO a_ 4 ([.null, .ref nw_1, .ref nw_2, .ref nw_3, .ref nw_4, .ref nw_5, .null, .null, .int 0, .int 0, .int 0, .int 0, .int 0, .int 0, .int 0]), bI g nw_1 10 (fun _ => 0), bI g nw_2 10 (fun _ => 0), bI g nw_3 10 (fun _ => 0), bI g nw_4 10 (fun _ => 0), bI g nw_5 10 (fun _ => 0), bI g nw_6 3 frF] := hw
  refine s_castA cf hw q152 6 rfl dX4_init_51 ?_
  refine s_putF (v := .ref nw_6) fb4 cf hw 0 rfl 6 rfl q169 rfl hnm rfl rfl rfl rfl dX4_init_54 (fun H locs hw => ?_)
  have hw : WD g A s H locs [bO a_ 4 ([.null, .ref nw_1, .ref nw_2, .ref nw_3, .ref nw_4, .ref nw_5, .ref nw_6, .null, .int 0, .int 0, .int 0, .int 0, .int 0, .int 0, .int 0]), bI g nw_1 10 (fun _ => 0), bI g nw_2 10 (fun _ => 0), bI g nw_3 10 (fun _ => 0), bI g nw_4 10 (fun _ => 0), bI g nw_5 10 (fun _ => 0), bI g nw_6 3 frF] := hw
  refine lv_aload_n hx hb dX4_init_57 rfl (lv_at hl 0 rfl) ?_
  refine lv_iconst (v := 3) hx hb dX4_init_58 (by decide) ?_
  refine s_newi (N := 3) cf hw (rfl) rfl (Nat.le_of_ble_eq_true rfl) (Nat.le_of_ble_eq_true rfl) dX4_init_59 (fun nw_7 H hw => ?_)
  have hw : WD g A s H locs [bO a_ 4 ([.null, .ref nw_1, .ref nw_2, .ref nw_3, .ref nw_4, .ref nw_5, .ref nw_6, .null, .int 0, .int 0, .int 0, .int 0, .int 0, .int 0, .int 0]), bI g nw_1 10 (fun _ => 0), bI g nw_2 10 (fun _ => 0), bI g nw_3 10 (fun _ => 0), bI g nw_4 10 (fun _ => 0), bI g nw_5 10 (fun _ => 0), bI g nw_6 3 frF, bI g nw_7 3 (fun _ => 0)] := hw
  refine lv_dup hx hb dX4_init_61 rfl ?_
  refine lv_iconst (v := 0) hx hb dX4_init_62 (by decide) ?_
  refine lv_ldc hx hb hown (hts _ q153) dX4_init_63 ?_
  refine s_iast (j := 0) cf hw 7 rfl (rfl) (by decide) rfl dX4_init_65 (fun H locs hw => ?_)
  have hw : WD g A s H locs [bO a_ 4 ([.null, .ref nw_1, .ref nw_2, .ref nw_3, .ref nw_4, .ref nw_5, .ref nw_6, .null, .int 0, .int 0, .int 0, .int 0, .int 0, .int 0, .int 0]), bI g nw_1 10 (fun _ => 0), bI g nw_2 10 (fun _ => 0), bI g nw_3 10 (fun _ => 0), bI g nw_4 10 (fun _ => 0), bI g nw_5 10 (fun _ => 0), bI g nw_6 3 frF, bI g nw_7 3 (upd (fun _ => 0) 0 (-1000000005))] := hw
  refine lv_dup hx hb dX4_init_66 rfl ?_
  refine lv_iconst (v := 1) hx hb dX4_init_67 (by decide) ?_
  refine lv_ldc hx hb hown (hts _ q153) dX4_init_68 ?_
  refine s_iast (j := 1) cf hw 7 rfl (rfl) (by decide) rfl dX4_init_70 (fun H locs hw => ?_)
  have hw : WD g A s H locs [bO a_ 4 ([.null, .ref nw_1, .ref nw_2, .ref nw_3, .ref nw_4, .ref nw_5, .ref nw_6, .null, .int 0, .int 0, .int 0, .int 0, .int 0, .int 0, .int 0]), bI g nw_1 10 (fun _ => 0), bI g nw_2 10 (fun _ => 0), bI g nw_3 10 (fun _ => 0), bI g nw_4 10 (fun _ => 0), bI g nw_5 10 (fun _ => 0), bI g nw_6 3 frF, bI g nw_7 3 (upd (upd (fun _ => 0) 0 (-1000000005)) 1 (-1000000005))] := hw
  refine lv_dup hx hb dX4_init_71 rfl ?_
  refine lv_iconst (v := 2) hx hb dX4_init_72 (by decide) ?_
  refine lv_ldc hx hb hown (hts _ q153) dX4_init_73 ?_
  refine s_iast (j := 2) cf hw 7 rfl (rfl) (by decide) rfl dX4_init_75 (fun H locs hw => ?_)
  have hw : WD g A s H locs [bO a_ 4 ([.null, .ref nw_1, .ref nw_2, .ref nw_3, .ref nw_4, .ref nw_5, .ref nw_6, .null, .int 0, .int 0, .int 0, .int 0, .int 0, .int 0, .int 0]), bI g nw_1 10 (fun _ => 0), bI g nw_2 10 (fun _ => 0), bI g nw_3 10 (fun _ => 0), bI g nw_4 10 (fun _ => 0), bI g nw_5 10 (fun _ => 0), bI g nw_6 3 frF, bI g nw_7 3 (upd (upd (upd (fun _ => 0) 0 (-1000000005)) 1 (-1000000005)) 2 (-1000000005))] := hw
  refine s_putF (v := .ref nw_7) fb4 cf hw 0 rfl 7 rfl q171 rfl hnm rfl rfl rfl rfl dX4_init_76 (fun H locs hw => ?_)
  have hw : WD g A s H locs [bO a_ 4 ([.null, .ref nw_1, .ref nw_2, .ref nw_3, .ref nw_4, .ref nw_5, .ref nw_6, .ref nw_7, .int 0, .int 0, .int 0, .int 0, .int 0, .int 0, .int 0]), bI g nw_1 10 (fun _ => 0), bI g nw_2 10 (fun _ => 0), bI g nw_3 10 (fun _ => 0), bI g nw_4 10 (fun _ => 0), bI g nw_5 10 (fun _ => 0), bI g nw_6 3 frF, bI g nw_7 3 (upd (upd (upd (fun _ => 0) 0 (-1000000005)) 1 (-1000000005)) 2 (-1000000005))] := hw
  refine lv_aload_n hx hb dX4_init_79 rfl (lv_at hl 0 rfl) ?_
  refine lv_iconst (v := 1) hx hb dX4_init_80 (by decide) ?_
  refine s_put (v := .int 1) fb4 cf hw 0 rfl 14 rfl q184 rfl rfl rfl rfl dX4_init_81 (fun H locs hw => ?_)
  have hw : WD g A s H locs [bO a_ 4 ([.null, .ref nw_1, .ref nw_2, .ref nw_3, .ref nw_4, .ref nw_5, .ref nw_6, .ref nw_7, .int 0, .int 0, .int 0, .int 0, .int 0, .int 0, .int 1]), bI g nw_1 10 (fun _ => 0), bI g nw_2 10 (fun _ => 0), bI g nw_3 10 (fun _ => 0), bI g nw_4 10 (fun _ => 0), bI g nw_5 10 (fun _ => 0), bI g nw_6 3 frF, bI g nw_7 3 (upd (upd (upd (fun _ => 0) 0 (-1000000005)) 1 (-1000000005)) 2 (-1000000005))] := hw
  refine lv_aload_n hx hb dX4_init_84 rfl (lv_at hl 0 rfl) ?_
  refine lv_aload_n hx hb dX4_init_85 rfl (lv_at hl 1 rfl) ?_
  refine s_putF (v := .ref la_) fb4 cf hw 0 rfl 0 rfl q154 rfl hnm rfl rfl rfl rfl dX4_init_86 (fun H locs hw => ?_)
  have hw : WD g A s H locs [bO a_ 4 ([.ref la_, .ref nw_1, .ref nw_2, .ref nw_3, .ref nw_4, .ref nw_5, .ref nw_6, .ref nw_7, .int 0, .int 0, .int 0, .int 0, .int 0, .int 0, .int 1]), bI g nw_1 10 (fun _ => 0), bI g nw_2 10 (fun _ => 0), bI g nw_3 10 (fun _ => 0), bI g nw_4 10 (fun _ => 0), bI g nw_5 10 (fun _ => 0), bI g nw_6 3 frF, bI g nw_7 3 (upd (upd (upd (fun _ => 0) 0 (-1000000005)) 1 (-1000000005)) 2 (-1000000005))] := hw
  exact s_vret cf hr hlk (fun k => ([0, nw_1, nw_2, nw_3, nw_4, nw_5, nw_6, nw_7] : List Nat).getD k 0) (hw.re rfl) trivial (Nat.le_of_ble_eq_true rfl) (Nat.le_of_ble_eq_true rfl) dX4_init_89 hQ
set_option maxRecDepth 100000 in
set_option maxHeartbeats 4000000 in
theorem i_text {l : Launch} {g : GG} {a_ ca_ : Nat} (ky_ pc_ : Int32) : Ct l g yX5_init cX5_init 4 (Option.none : Option Jvm.ClassFile.FieldType) 1 0 0 [.ref a_, .int ky_, .int pc_, .ref ca_] [bO a_ 5 ([.int 0, .int 0, .null])] (QV g (fun (_ : Unit) => True) (fun _ => [bO a_ 5 ([.int ky_, .int pc_, .ref ca_])])) := by
  refine Ct.of (by decide) rfl ?_
  intro p e s m args below meth c A H locs ls Qf cf hr hlk hnm hQ hw hl
  have hx := cf.1
  have hb := cf.2.1
  have hml := cf.2.2.1
  have hown := cf.2.2.2.1
  have hts := cf.2.2.2.2
  have hw : WD g A s H locs [bO a_ 5 ([.int 0, .int 0, .null])] := hw
  have hl : lv_has ls 4 [(0, .ref a_), (1, .int ky_), (2, .int pc_), (3, .ref ca_)] := hl
  refine lv_aload_n hx hb dX5_init_0 rfl (lv_at hl 0 rfl) ?_
  refine W.objInit hx hb hown (hts _ q807) (hts _ (gw_mem 102 rfl rfl)) (hts _ (gw_mem 103 rfl rfl)) rfl (by rw [hml]; exact hl.1) rfl dX5_init_1 (Nat.le_of_ble_eq_true rfl) (Nat.le_of_ble_eq_true rfl) ?_
  refine W.eq (g2 := F0 m 4 ls []) rfl ?_
  refine lv_aload_n hx hb dX5_init_4 rfl (lv_at hl 0 rfl) ?_
  refine lv_iload_n hx hb dX5_init_5 rfl (lv_at hl 1 rfl) ?_
  refine s_putF (v := .int ky_) fb5 cf hw 0 rfl 0 rfl q808 rfl hnm rfl rfl rfl rfl dX5_init_6 (fun H locs hw => ?_)
  have hw : WD g A s H locs [bO a_ 5 ([.int ky_, .int 0, .null])] := hw
  refine lv_aload_n hx hb dX5_init_9 rfl (lv_at hl 0 rfl) ?_
  refine lv_iload_n hx hb dX5_init_10 rfl (lv_at hl 2 rfl) ?_
  refine s_putF (v := .int pc_) fb5 cf hw 0 rfl 1 rfl q810 rfl hnm rfl rfl rfl rfl dX5_init_11 (fun H locs hw => ?_)
  have hw : WD g A s H locs [bO a_ 5 ([.int ky_, .int pc_, .null])] := hw
  refine lv_aload_n hx hb dX5_init_14 rfl (lv_at hl 0 rfl) ?_
  refine lv_aload_n hx hb dX5_init_15 rfl (lv_at hl 3 rfl) ?_
  refine s_putF (v := .ref ca_) fb5 cf hw 0 rfl 2 rfl q812 rfl hnm rfl rfl rfl rfl dX5_init_16 (fun H locs hw => ?_)
  have hw : WD g A s H locs [bO a_ 5 ([.int ky_, .int pc_, .ref ca_])] := hw
  exact s_vret cf hr hlk () hw trivial (Nat.le_of_ble_eq_true rfl) (Nat.le_of_ble_eq_true rfl) dX5_init_19 hQ
