theorem dfl0 : ∀ j, j < 3 → defaultValue (tyX0 j) = vp_V [.null, .null, .null] j := by
  intro j hj
  have : ∀ k : Fin 3, defaultValue (tyX0 k.val) = vp_V [.null, .null, .null] k.val := by decide +kernel
  exact this ⟨j, hj⟩
theorem dfl1 : ∀ j, j < 8 → defaultValue (tyX1 j) = vp_V [.null, .null, .int 0, .int 0, .int 0, .int 0, .int 0, .int 0] j := by
  intro j hj
  have : ∀ k : Fin 8, defaultValue (tyX1 k.val) = vp_V [.null, .null, .int 0, .int 0, .int 0, .int 0, .int 0, .int 0] k.val := by decide +kernel
  exact this ⟨j, hj⟩
theorem dfl2 : ∀ j, j < 3 → defaultValue (tyX2 j) = vp_V [.null, .int 0, .int 0] j := by
  intro j hj
  have : ∀ k : Fin 3, defaultValue (tyX2 k.val) = vp_V [.null, .int 0, .int 0] k.val := by decide +kernel
  exact this ⟨j, hj⟩
theorem dfl3 : ∀ j, j < 7 → defaultValue (tyX3 j) = vp_V [.int 0, .int 0, .int 0, .int 0, .int 0, .int 0, .null] j := by
  intro j hj
  have : ∀ k : Fin 7, defaultValue (tyX3 k.val) = vp_V [.int 0, .int 0, .int 0, .int 0, .int 0, .int 0, .null] k.val := by decide +kernel
  exact this ⟨j, hj⟩
theorem dfl4 : ∀ j, j < 15 → defaultValue (tyX4 j) = vp_V [.null, .null, .null, .null, .null, .null, .null, .null, .int 0, .int 0, .int 0, .int 0, .int 0, .int 0, .int 0] j := by
  intro j hj
  have : ∀ k : Fin 15, defaultValue (tyX4 k.val) = vp_V [.null, .null, .null, .null, .null, .null, .null, .null, .int 0, .int 0, .int 0, .int 0, .int 0, .int 0, .int 0] k.val := by decide +kernel
  exact this ⟨j, hj⟩
theorem dfl5 : ∀ j, j < 3 → defaultValue (tyX5 j) = vp_V [.int 0, .int 0, .null] j := by
  intro j hj
  have : ∀ k : Fin 3, defaultValue (tyX5 k.val) = vp_V [.int 0, .int 0, .null] k.val := by decide +kernel
  exact this ⟨j, hj⟩
theorem dfl6 : ∀ j, j < 13 → defaultValue (tyX6 j) = vp_V [.null, .null, .null, .null, .int 0, .null, .null, .int 0, .null, .null, .null, .int 0, .null] j := by
  intro j hj
  have : ∀ k : Fin 13, defaultValue (tyX6 k.val) = vp_V [.null, .null, .null, .null, .int 0, .null, .null, .int 0, .null, .null, .null, .int 0, .null] k.val := by decide +kernel
  exact this ⟨j, hj⟩
theorem dfl7 : ∀ j, j < 39 → defaultValue (tyX7 j) = vp_V [.null, .null, .null, .null, .int 0, .null, .null, .null, .null, .null, .null, .int 0, .int 0, .int 0, .int 0, .long 0, .int 0, .int 0, .int 0, .int 0, .int 0, .int 0, .int 0, .null, .null, .null, .null, .null, .null, .null, .null, .null, .null, .null, .null, .null, .null, .null, .int 0] j := by
  intro j hj
  have : ∀ k : Fin 39, defaultValue (tyX7 k.val) = vp_V [.null, .null, .null, .null, .int 0, .null, .null, .null, .null, .null, .null, .int 0, .int 0, .int 0, .int 0, .long 0, .int 0, .int 0, .int 0, .int 0, .int 0, .int 0, .int 0, .null, .null, .null, .null, .null, .null, .null, .null, .null, .null, .null, .null, .null, .null, .null, .int 0] k.val := by decide +kernel
  exact this ⟨j, hj⟩
set_option maxRecDepth 100000 in
set_option maxHeartbeats 4000000 in
theorem i_sheet {l : Launch} {g : GG} {a_ : Nat} : Ct l g yX2_init cX2_init 1 (Option.none : Option Jvm.ClassFile.FieldType) 1 1 24 [.ref a_] [bO a_ 2 ([.null, .int 0, .int 0])] (QV g (fun (_ : Nat) => True) (fun u => [bO a_ 2 ([.ref u, .int (-1), .int 0]) ++ bI g u 24 (fun _ => 0)])) := by
  refine Ct.of (by decide) rfl ?_
  intro p e s m args below meth c A H locs ls Qf cf hr hlk hnm hQ hw hl
  have hx := cf.1
  have hb := cf.2.1
  have hml := cf.2.2.1
  have hown := cf.2.2.2.1
  have hts := cf.2.2.2.2
  have hw : WD g A s H locs [bO a_ 2 ([.null, .int 0, .int 0])] := hw
  have hl : lv_has ls 1 [(0, .ref a_)] := hl
  refine lv_aload_n hx hb dX2_init_0 rfl (lv_at hl 0 rfl) ?_
  refine W.objInit hx hb hown (hts _ q257) (hts _ (gw_mem 102 rfl rfl)) (hts _ (gw_mem 103 rfl rfl)) rfl (by rw [hml]; exact hl.1) rfl dX2_init_1 (Nat.le_of_ble_eq_true rfl) (Nat.le_of_ble_eq_true rfl) ?_
  refine W.eq (g2 := F0 m 4 ls []) rfl ?_
  refine lv_aload_n hx hb dX2_init_4 rfl (lv_at hl 0 rfl) ?_
  refine lv_bipush (v := 24) hx hb dX2_init_5 (by decide) ?_
  refine s_newi (N := 24) cf hw (rfl) rfl (Nat.le_of_ble_eq_true rfl) (Nat.le_of_ble_eq_true rfl) dX2_init_7 (fun nw_1 H hw => ?_)
  have hw : WD g A s H locs [bO a_ 2 ([.null, .int 0, .int 0]), bI g nw_1 24 (fun _ => 0)] := hw
  refine s_putF (v := .ref nw_1) fb2 cf hw 0 rfl 0 rfl q258 rfl hnm rfl rfl rfl rfl dX2_init_9 (fun H locs hw => ?_)
  have hw : WD g A s H locs [bO a_ 2 ([.ref nw_1, .int 0, .int 0]), bI g nw_1 24 (fun _ => 0)] := hw
  refine lv_aload_n hx hb dX2_init_12 rfl (lv_at hl 0 rfl) ?_
  refine lv_iconst (v := (-1)) hx hb dX2_init_13 (by decide) ?_
  refine s_put (v := .int (-1)) fb2 cf hw 0 rfl 1 rfl q260 rfl rfl rfl rfl dX2_init_14 (fun H locs hw => ?_)
  have hw : WD g A s H locs [bO a_ 2 ([.ref nw_1, .int (-1), .int 0]), bI g nw_1 24 (fun _ => 0)] := hw
  exact s_vret cf hr hlk nw_1 (hw.re rfl) trivial (Nat.le_of_ble_eq_true rfl) (Nat.le_of_ble_eq_true rfl) dX2_init_17 hQ
set_option maxRecDepth 100000 in
set_option maxHeartbeats 4000000 in
theorem i_slot {l : Launch} {g : GG} {a_ : Nat} : Ct l g yX3_init cX3_init 1 (Option.none : Option Jvm.ClassFile.FieldType) 2 2 27 [.ref a_] [bO a_ 3 ([.int 0, .int 0, .int 0, .int 0, .int 0, .int 0, .null])] (QV g (fun (_ : Nat × Nat) => True) (fun u => [bO a_ 3 ([.int 0, .int 0, .int 0, .int 0, .int 0, .int 0, .ref u.1]) ++ bO u.1 2 ([.ref u.2, .int (-1), .int 0]) ++ bI g u.2 24 (fun _ => 0)])) := by
  refine Ct.of (by decide) rfl ?_
  intro p e s m args below meth c A H locs ls Qf cf hr hlk hnm hQ hw hl
  have hx := cf.1
  have hb := cf.2.1
  have hml := cf.2.2.1
  have hown := cf.2.2.2.1
  have hts := cf.2.2.2.2
  have hw : WD g A s H locs [bO a_ 3 ([.int 0, .int 0, .int 0, .int 0, .int 0, .int 0, .null])] := hw
  have hl : lv_has ls 1 [(0, .ref a_)] := hl
  refine lv_aload_n hx hb dX3_init_0 rfl (lv_at hl 0 rfl) ?_
  refine W.objInit hx hb hown (hts _ q275) (hts _ (gw_mem 102 rfl rfl)) (hts _ (gw_mem 103 rfl rfl)) rfl (by rw [hml]; exact hl.1) rfl dX3_init_1 (Nat.le_of_ble_eq_true rfl) (Nat.le_of_ble_eq_true rfl) ?_
  refine W.eq (g2 := F0 m 4 ls []) rfl ?_
  refine lv_aload_n hx hb dX3_init_4 rfl (lv_at hl 0 rfl) ?_
  refine lv_iconst (v := 0) hx hb dX3_init_5 (by decide) ?_
  refine s_put (v := .int 0) fb3 cf hw 0 rfl 0 rfl q278 rfl rfl rfl rfl dX3_init_6 (fun H locs hw => ?_)
  have hw : WD g A s H locs [bO a_ 3 ([.int 0, .int 0, .int 0, .int 0, .int 0, .int 0, .null])] := hw
  refine lv_aload_n hx hb dX3_init_9 rfl (lv_at hl 0 rfl) ?_
  refine s_new (fs := [.null, .int 0, .int 0]) fb2 cf hw q276 q253 q84 (dfl2) (Nat.le_of_ble_eq_true rfl) (Nat.le_of_ble_eq_true rfl) dX3_init_10 (fun nw_1 H hw => ?_)
  have hw : WD g A s H locs [bO a_ 3 ([.int 0, .int 0, .int 0, .int 0, .int 0, .int 0, .null]), bO nw_1 2 ([.null, .int 0, .int 0])] := hw
  refine lv_dup hx hb dX3_init_13 rfl ?_
  refine s_callv (runIN cf (i_sheet (a_ := nw_1)) hw [1] (by decide) rfl km_X2_init rfl ki_X2_init q277 rfl rfl hl.1 rfl dX3_init_14) hw [1] (by decide) rfl (fun _ => rfl) (fun u_2 H locs hp_3 hw => ?_)
  have hw : WD g A s H locs [bO a_ 3 ([.int 0, .int 0, .int 0, .int 0, .int 0, .int 0, .null]), bO nw_1 2 ([.ref u_2, .int (-1), .int 0]) ++ bI g u_2 24 (fun _ => 0)] := hw
  have hw : WD g A s H locs [bO a_ 3 ([.int 0, .int 0, .int 0, .int 0, .int 0, .int 0, .null]), bO nw_1 2 ([.ref u_2, .int (-1), .int 0]), bI g u_2 24 (fun _ => 0)] := hw.re rfl
  refine s_putF (v := .ref nw_1) fb3 cf hw 0 rfl 6 rfl q289 rfl hnm rfl rfl rfl rfl dX3_init_17 (fun H locs hw => ?_)
  have hw : WD g A s H locs [bO a_ 3 ([.int 0, .int 0, .int 0, .int 0, .int 0, .int 0, .ref nw_1]), bO nw_1 2 ([.ref u_2, .int (-1), .int 0]), bI g u_2 24 (fun _ => 0)] := hw
  exact s_vret cf hr hlk (nw_1, u_2) (hw.re rfl) trivial (Nat.le_of_ble_eq_true rfl) (Nat.le_of_ble_eq_true rfl) dX3_init_20 hQ
