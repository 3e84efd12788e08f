set_option maxRecDepth 100000 in
set_option maxHeartbeats 4000000 in
theorem x_isKind {l : Launch} {g : GG} (k : Int32) : Ct l g yX6_isKind cX6_isKind 1 (Option.some Jvm.ClassFile.FieldType.boolean) 0 0 0 [.int k] [] (QI g (fun r (_ : Unit) => r = if 0 ≤ k ∧ k ≤ 5 then 1 else 0) (fun _ => [])) := by
  refine Ct.of (by decide) rfl ?_
  intro p e s m args below meth c A H locs ls Qf cf hr hlk hnm hQ hw hl
  have hx := cf.1
  have hb := cf.2.1
  have hml := cf.2.2.1
  have hown := cf.2.2.2.1
  have hts := cf.2.2.2.2
  have hw : WD g A s H locs [] := hw
  have hl : lv_has ls 1 [(0, .int k)] := hl
  refine lv_iload_n hx hb dX6_isKind_0 rfl (lv_at hl 0 rfl) ?_
  refine lv_if_lt (tgt := 14) hx hb dX6_isKind_1 (by decide) (fun c1 => ?_) (fun c1 => ?_)
  · refine lv_iconst (v := 0) hx hb dX6_isKind_14 (by decide) ?_
    exact s_zret cf hr hlk () hw (by grind) rfl (Nat.le_of_ble_eq_true rfl) (Nat.le_of_ble_eq_true rfl) dX6_isKind_15 hQ
  · refine lv_iload_n hx hb dX6_isKind_4 rfl (lv_at hl 0 rfl) ?_
    refine lv_bipush (v := 6) hx hb dX6_isKind_5 (by decide) ?_
    refine lv_icmp_ge (tgt := 14) hx hb dX6_isKind_7 (by decide) (fun c7 => ?_) (fun c7 => ?_)
    · refine lv_iconst (v := 0) hx hb dX6_isKind_14 (by decide) ?_
      exact s_zret cf hr hlk () hw (by grind) rfl (Nat.le_of_ble_eq_true rfl) (Nat.le_of_ble_eq_true rfl) dX6_isKind_15 hQ
    · refine lv_iconst (v := 1) hx hb dX6_isKind_10 (by decide) ?_
      refine lv_goto (tgt := 15) hx hb dX6_isKind_11 (by decide) ?_
      exact s_zret cf hr hlk () hw (by grind) rfl (Nat.le_of_ble_eq_true rfl) (Nat.le_of_ble_eq_true rfl) dX6_isKind_15 hQ
set_option maxRecDepth 100000 in
set_option maxHeartbeats 4000000 in
theorem x_isWithin {l : Launch} {g : GG} (v m_ : Int32) : Ct l g yX6_isWithin cX6_isWithin 2 (Option.some Jvm.ClassFile.FieldType.boolean) 0 0 0 [.int v, .int m_] [] (QI g (fun r (_ : Unit) => r = if 0 ≤ v ∧ v ≤ m_ then 1 else 0) (fun _ => [])) := by
  refine Ct.of (by decide) rfl ?_
  intro p e s m args below meth c A H locs ls Qf cf hr hlk hnm hQ hw hl
  have hx := cf.1
  have hb := cf.2.1
  have hml := cf.2.2.1
  have hown := cf.2.2.2.1
  have hts := cf.2.2.2.2
  have hw : WD g A s H locs [] := hw
  have hl : lv_has ls 2 [(0, .int v), (1, .int m_)] := hl
  refine lv_iload_n hx hb dX6_isWithin_0 rfl (lv_at hl 0 rfl) ?_
  refine lv_if_lt (tgt := 13) hx hb dX6_isWithin_1 (by decide) (fun c1 => ?_) (fun c1 => ?_)
  · refine lv_iconst (v := 0) hx hb dX6_isWithin_13 (by decide) ?_
    exact s_zret cf hr hlk () hw (by grind) rfl (Nat.le_of_ble_eq_true rfl) (Nat.le_of_ble_eq_true rfl) dX6_isWithin_14 hQ
  · refine lv_iload_n hx hb dX6_isWithin_4 rfl (lv_at hl 0 rfl) ?_
    refine lv_iload_n hx hb dX6_isWithin_5 rfl (lv_at hl 1 rfl) ?_
    refine lv_icmp_gt (tgt := 13) hx hb dX6_isWithin_6 (by decide) (fun c6 => ?_) (fun c6 => ?_)
    · refine lv_iconst (v := 0) hx hb dX6_isWithin_13 (by decide) ?_
      exact s_zret cf hr hlk () hw (by grind) rfl (Nat.le_of_ble_eq_true rfl) (Nat.le_of_ble_eq_true rfl) dX6_isWithin_14 hQ
    · refine lv_iconst (v := 1) hx hb dX6_isWithin_9 (by decide) ?_
      refine lv_goto (tgt := 14) hx hb dX6_isWithin_10 (by decide) ?_
      exact s_zret cf hr hlk () hw (by grind) rfl (Nat.le_of_ble_eq_true rfl) (Nat.le_of_ble_eq_true rfl) dX6_isWithin_14 hQ
set_option maxRecDepth 100000 in
set_option maxHeartbeats 4000000 in
theorem x_held {l : Launch} {g : GG} (v : Int32) : Ct l g yX6_heldWithin cX6_heldWithin 1 (Option.some Jvm.ClassFile.FieldType.int) 1 0 0 [.int v] [] (QI g (fun r (_ : Unit) => r = held v 0 99) (fun _ => [])) := by
  refine Ct.of (by decide) rfl ?_
  intro p e s m args below meth c A H locs ls Qf cf hr hlk hnm hQ hw hl
  have hx := cf.1
  have hb := cf.2.1
  have hml := cf.2.2.1
  have hown := cf.2.2.2.1
  have hts := cf.2.2.2.2
  have hw : WD g A s H locs [] := hw
  have hl : lv_has ls 1 [(0, .int v)] := hl
  refine lv_iconst (v := 0) hx hb dX6_heldWithin_0 (by decide) ?_
  refine lv_bipush (v := 99) hx hb dX6_heldWithin_1 (by decide) ?_
  refine lv_iload_n hx hb dX6_heldWithin_3 rfl (lv_at hl 0 rfl) ?_
  refine va_mmin hx hb (by rw [hml]; exact hl.1.symm) hown (hts _ q400) (hts _ ks_J9_min_7cf53) (hts _ km_J9_min_7cf53.1) (hts _ km_J9_min_7cf53.2.1) (Nat.le_of_ble_eq_true rfl) (Nat.le_of_ble_eq_true rfl) (Nat.le_of_ble_eq_true rfl) (Nat.le_of_ble_eq_true rfl) dX6_heldWithin_4 ?_
  refine va_mmax hx hb (by rw [hml]; exact hl.1.symm) hown (hts _ q403) (hts _ ks_J9_max_7cf53) (hts _ km_J9_max_7cf53.1) (hts _ km_J9_max_7cf53.2.1) (Nat.le_of_ble_eq_true rfl) (Nat.le_of_ble_eq_true rfl) (Nat.le_of_ble_eq_true rfl) (Nat.le_of_ble_eq_true rfl) dX6_heldWithin_7 ?_
  exact s_iret cf hr hlk () hw (by unfold held; grind) (Nat.le_of_ble_eq_true rfl) (Nat.le_of_ble_eq_true rfl) dX6_heldWithin_10 hQ
set_option maxRecDepth 100000 in
set_option maxHeartbeats 4000000 in
theorem x_worth {l : Launch} {g : GG} (k st co he : Int32) : Ct l g yX6_worth cX6_worth 4 (Option.some Jvm.ClassFile.FieldType.int) 0 0 0 [.int k, .int st, .int co, .int he] [] (QI g (fun r (_ : Unit) => r = worthF k st co he) (fun _ => [])) := by
  refine Ct.of (by decide) rfl ?_
  intro p e s m args below meth c A H locs ls Qf cf hr hlk hnm hQ hw hl
  have hx := cf.1
  have hb := cf.2.1
  have hml := cf.2.2.1
  have hown := cf.2.2.2.1
  have hts := cf.2.2.2.2
  have hw : WD g A s H locs [] := hw
  have hl : lv_has ls 4 [(0, .int k), (1, .int st), (2, .int co), (3, .int he)] := hl
  refine lv_iload_n hx hb dX6_worth_0 rfl (lv_at hl 0 rfl) ?_
  by_cases t1_1 : k = 1
  · refine lv_tableIn (tgt := 36) (off := 35) hx hb dX6_worth_1 (by rw [t1_1]; decide) (by rw [t1_1]; decide) (by rw [t1_1]; decide) (by decide) ?_
    refine lv_iload_n hx hb dX6_worth_36 rfl (lv_at hl 2 rfl) ?_
    refine lv_iload_n hx hb dX6_worth_37 rfl (lv_at hl 1 rfl) ?_
    refine lv_iadd hx hb dX6_worth_38 ?_
    exact s_iret cf hr hlk () hw (by unfold worthF; rw [if_pos t1_1]) (Nat.le_of_ble_eq_true rfl) (Nat.le_of_ble_eq_true rfl) dX6_worth_39 hQ
  by_cases t1_2 : k = 2
  · refine lv_tableIn (tgt := 46) (off := 45) hx hb dX6_worth_1 (by rw [t1_2]; decide) (by rw [t1_2]; decide) (by rw [t1_2]; decide) (by decide) ?_
    refine lv_bipush (v := 99) hx hb dX6_worth_46 (by decide) ?_
    refine lv_iload_n hx hb dX6_worth_48 rfl (lv_at hl 1 rfl) ?_
    refine lv_isub hx hb dX6_worth_49 ?_
    exact s_iret cf hr hlk () hw (by unfold worthF; rw [if_neg t1_1, if_pos t1_2]) (Nat.le_of_ble_eq_true rfl) (Nat.le_of_ble_eq_true rfl) dX6_worth_50 hQ
  by_cases t1_3 : k = 3
  · refine lv_tableIn (tgt := 40) (off := 39) hx hb dX6_worth_1 (by rw [t1_3]; decide) (by rw [t1_3]; decide) (by rw [t1_3]; decide) (by decide) ?_
    refine lv_iload_n hx hb dX6_worth_40 rfl (lv_at hl 2 rfl) ?_
    refine lv_iload_n hx hb dX6_worth_41 rfl (lv_at hl 1 rfl) ?_
    refine lv_iadd hx hb dX6_worth_42 ?_
    refine lv_iconst (v := 2) hx hb dX6_worth_43 (by decide) ?_
    refine lv_idiv hx hb dX6_worth_44 (by decide) ?_
    exact s_iret cf hr hlk () hw (by unfold worthF; rw [if_neg t1_1, if_neg t1_2, if_pos t1_3]) (Nat.le_of_ble_eq_true rfl) (Nat.le_of_ble_eq_true rfl) dX6_worth_45 hQ
  by_cases t1_4 : k = 4
  · refine lv_tableIn (tgt := 51) (off := 50) hx hb dX6_worth_1 (by rw [t1_4]; decide) (by rw [t1_4]; decide) (by rw [t1_4]; decide) (by decide) ?_
    refine lv_bipush (v := 99) hx hb dX6_worth_51 (by decide) ?_
    refine lv_iload_n hx hb dX6_worth_53 rfl (lv_at hl 1 rfl) ?_
    refine lv_isub hx hb dX6_worth_54 ?_
    refine lv_bipush (v := 7) hx hb dX6_worth_55 (by decide) ?_
    refine lv_iadd hx hb dX6_worth_57 ?_
    exact s_iret cf hr hlk () hw (by unfold worthF; rw [if_neg t1_1, if_neg t1_2, if_neg t1_3, if_pos t1_4]) (Nat.le_of_ble_eq_true rfl) (Nat.le_of_ble_eq_true rfl) dX6_worth_58 hQ
  by_cases t1_5 : k = 5
  · refine lv_tableIn (tgt := 59) (off := 58) hx hb dX6_worth_1 (by rw [t1_5]; decide) (by rw [t1_5]; decide) (by rw [t1_5]; decide) (by decide) ?_
    refine lv_iload_n hx hb dX6_worth_59 rfl (lv_at hl 3 rfl) ?_
    exact s_iret cf hr hlk () hw (by unfold worthF; rw [if_neg t1_1, if_neg t1_2, if_neg t1_3, if_neg t1_4, if_pos t1_5]) (Nat.le_of_ble_eq_true rfl) (Nat.le_of_ble_eq_true rfl) dX6_worth_60 hQ
  refine lv_tableOut (tgt := 61) hx hb dX6_worth_1 (by have e0 := lv_neT t1_1 (show (1 : Int32).toInt = 1 from rfl); have e1 := lv_neT t1_2 (show (2 : Int32).toInt = 2 from rfl); have e2 := lv_neT t1_3 (show (3 : Int32).toInt = 3 from rfl); have e3 := lv_neT t1_4 (show (4 : Int32).toInt = 4 from rfl); have e4 := lv_neT t1_5 (show (5 : Int32).toInt = 5 from rfl); omega) (by decide) ?_
  refine lv_iload_n hx hb dX6_worth_61 rfl (lv_at hl 2 rfl) ?_
  exact s_iret cf hr hlk () hw (by unfold worthF; rw [if_neg t1_1, if_neg t1_2, if_neg t1_3, if_neg t1_4, if_neg t1_5]) (Nat.le_of_ble_eq_true rfl) (Nat.le_of_ble_eq_true rfl) dX6_worth_62 hQ
set_option maxRecDepth 100000 in
set_option maxHeartbeats 4000000 in
theorem x_replaced {l : Launch} {g : GG} {x n : Nat} {f : DD} (hN : Nat.ble n 1073741824 = true) (j : Nat) (hj : j < n) (v : Int32) : Ct l g yX6_replaced cX6_replaced 4 (Option.some Jvm.ClassFile.FieldType.int) 0 0 0 [.ref x, .int (nI j), .int v] [bI g x n f] (QI g (fun r (_ : Unit) => r = f j) (fun _ => [bI g x n (upd f j v)])) := by
  refine Ct.of (by decide) rfl ?_
  intro p e s m args below meth c A H locs ls Qf cf hr hlk hnm hQ hw hl
  have hx := cf.1
  have hb := cf.2.1
  have hml := cf.2.2.1
  have hown := cf.2.2.2.1
  have hts := cf.2.2.2.2
  have hw : WD g A s H locs [bI g x n f] := hw
  have hl : lv_has ls 4 [(0, .ref x), (1, .int (nI j)), (2, .int v)] := hl
  have hN2 := Nat.le_of_ble_eq_true hN
  refine lv_iload_n hx hb dX6_replaced_0 rfl (lv_at hl 1 rfl) ?_
  refine lv_if_lt (tgt := 10) hx hb dX6_replaced_1 (by decide) (fun c1 => ?_) (fun c1 => ?_)
  · exact absurd c1 (nI_pos (by omega))
  · refine lv_iload_n hx hb dX6_replaced_4 rfl (lv_at hl 1 rfl) ?_
    refine lv_aload_n hx hb dX6_replaced_5 rfl (lv_at hl 0 rfl) ?_
    refine s_alen (n32 := nI n) cf hw 0 rfl 0 rfl rfl dX6_replaced_6 ?_
    refine lv_icmp_lt (tgt := 13) hx hb dX6_replaced_7 (by decide) (fun c7 => ?_) (fun c7 => ?_)
    · refine lv_aload_n hx hb dX6_replaced_13 rfl (lv_at hl 0 rfl) ?_
      refine lv_iload_n hx hb dX6_replaced_14 rfl (lv_at hl 1 rfl) ?_
      refine s_iald (j := j) cf hw 0 rfl (rfl) (by omega) hN dX6_replaced_15 ?_
      refine lv_istore_n (lv' := [(3, .int (f j)), (0, .ref x), (1, .int (nI j)), (2, .int v)]) hx hb dX6_replaced_16 rfl hl (by decide) rfl (fun ls hl => ?_)
      refine lv_aload_n hx hb dX6_replaced_17 rfl (lv_at hl 1 rfl) ?_
      refine lv_iload_n hx hb dX6_replaced_18 rfl (lv_at hl 2 rfl) ?_
      refine lv_iload_n hx hb dX6_replaced_19 rfl (lv_at hl 3 rfl) ?_
      refine s_iast (j := j) cf hw 0 rfl (rfl) (by omega) hN dX6_replaced_20 (fun H locs hw => ?_)
      have hw : WD g A s H locs [bI g x n (upd f j v)] := hw
      refine lv_iload_n hx hb dX6_replaced_21 rfl (lv_at hl 0 rfl) ?_
      exact s_iret cf hr hlk () hw rfl (Nat.le_of_ble_eq_true rfl) (Nat.le_of_ble_eq_true rfl) dX6_replaced_22 hQ
    · exact absurd (nI_lt hj (by omega)) c7
set_option maxRecDepth 100000 in
set_option maxHeartbeats 4000000 in
theorem x_isOf {l : Launch} {g : GG} (k o : Int32) (hk : 0 ≤ k ∧ k ≤ 5) : Ct l g yX6_isOf cX6_isOf 4 (Option.some Jvm.ClassFile.FieldType.boolean) 1 0 0 [.int k, .int o] [] (QI g (fun r (_ : Unit) => r = if underF k o then 1 else 0) (fun _ => [])) := by
  refine Ct.of (by decide) rfl ?_
  intro p e s m args below meth c A H locs ls Qf cf hr hlk hnm hQ hw hl
  have hx := cf.1
  have hb := cf.2.1
  have hml := cf.2.2.1
  have hown := cf.2.2.2.1
  have hts := cf.2.2.2.2
  have hw : WD g A s H locs [] := hw
  have hl : lv_has ls 4 [(0, .int k), (1, .int o)] := hl
  obtain ⟨kn, hkn, hkx⟩ := rng_nat (m := 5) (by omega) hk.1 hk.2
  rcases (show kn = 0 ∨ kn = 1 ∨ kn = 2 ∨ kn = 3 ∨ kn = 4 ∨ kn = 5 by omega) with e0 | e0 | e0 | e0 | e0 | e0
  · have e1 : k = 0 := by rw [hkx, e0]; rfl
    subst e1
    refine lv_iload_n hx hb dX6_isOf_0 rfl (lv_at hl 0 rfl) ?_
    refine lv_istore_n (lv' := [(2, .int 0), (0, .int 0), (1, .int o)]) hx hb dX6_isOf_1 rfl hl (by decide) rfl (fun ls hl => ?_)
    refine lv_iconst (v := 0) hx hb dX6_isOf_2 (by decide) ?_
    refine lv_istore_n (lv' := [(3, .int 0), (2, .int 0), (0, .int 0), (1, .int o)]) hx hb dX6_isOf_3 rfl hl (by decide) rfl (fun ls hl => ?_)
    refine lv_iload_n hx hb dX6_isOf_4 rfl (lv_at hl 0 rfl) ?_
    refine lv_bipush (v := 6) hx hb dX6_isOf_5 (by decide) ?_
    refine lv_icmp_ge (tgt := 36) hx hb dX6_isOf_7 (by decide) (fun c7 => ?_) (fun c7 => ?_)
    · exact absurd c7 (by decide)
    · refine lv_iload_n hx hb dX6_isOf_10 rfl (lv_at hl 1 rfl) ?_
      refine s_calli (runS cf (x_isKind 0) hw [] (by decide) rfl km_X6_isKind ks_X6_isKind q350 rfl rfl hl.1 rfl dX6_isOf_11) hw [] (by decide) rfl (fun _ => rfl) (fun r_3 u_1 H locs hp_2 hw => ?_)
      have hw : WD g A s H locs [] := hw
      subst hp_2
      refine lv_topr (y := 1) (by decide) ?_
      refine lv_if_eq (tgt := 36) hx hb dX6_isOf_14 (by decide) (fun c14 => ?_) (fun c14 => ?_)
      · exact absurd c14 (by decide)
      · refine lv_iload_n hx hb dX6_isOf_17 rfl (lv_at hl 1 rfl) ?_
        refine lv_iload_n hx hb dX6_isOf_18 rfl (lv_at hl 3 rfl) ?_
        refine lv_icmp_ne (tgt := 24) hx hb dX6_isOf_19 (by decide) (fun c19 => ?_) (fun c19 => ?_)
        · refine va_gets hx hb (hw.2.2.2.2.2.2.2.2.2.2.1).1 hw.2.2.2.1 hown (hts _ q439) (fun _ h => h) dX6_isOf_24 ?_
          refine lv_iload_n hx hb dX6_isOf_27 rfl (lv_at hl 1 rfl) ?_
          refine va_ti hx hb (hw.2.2.2.2.2.2.2.2.2.2.1).2 hw.2.2.2.1 (i := 0) (v := .int (abF 0)) (by rw [show (0 : Int32) = nI 0 from rfl]; exact vp_in_nI (by decide) (by decide)) (by rw [show (0 : Int32) = nI 0 from rfl, nI_clamp (by omega)]) dX6_isOf_28 ?_
          refine lv_topr (y := (-1)) (rfl) ?_
          refine lv_istore_n (lv' := [(2, .int (-1)), (3, .int 0), (0, .int 0), (1, .int o)]) hx hb dX6_isOf_29 rfl hl (by decide) rfl (fun ls hl => ?_)
          refine lv_iinc (v := 1) (lv' := [(3, .int 1), (2, .int (-1)), (0, .int 0), (1, .int o)]) hx hb dX6_isOf_30 hl (k := 1) rfl (rfl) (by decide) rfl (fun ls hl => ?_)
          refine lv_goto (tgt := 4) hx hb dX6_isOf_33 (by decide) ?_
          refine lv_iload_n hx hb dX6_isOf_4 rfl (lv_at hl 0 rfl) ?_
          refine lv_bipush (v := 6) hx hb dX6_isOf_5 (by decide) ?_
          refine lv_icmp_ge (tgt := 36) hx hb dX6_isOf_7 (by decide) (fun c7 => ?_) (fun c7 => ?_)
          · exact absurd c7 (by decide)
          · refine lv_iload_n hx hb dX6_isOf_10 rfl (lv_at hl 1 rfl) ?_
            refine s_calli (runS cf (x_isKind (-1)) hw [] (by decide) rfl km_X6_isKind ks_X6_isKind q350 rfl rfl hl.1 rfl dX6_isOf_11) hw [] (by decide) rfl (fun _ => rfl) (fun r_6 u_4 H locs hp_5 hw => ?_)
            have hw : WD g A s H locs [] := hw
            subst hp_5
            refine lv_topr (y := 0) (by decide) ?_
            refine lv_if_eq (tgt := 36) hx hb dX6_isOf_14 (by decide) (fun c14 => ?_) (fun c14 => ?_)
            · refine lv_iconst (v := 0) hx hb dX6_isOf_36 (by decide) ?_
              exact s_zret cf hr hlk () hw (by unfold underF aboveF; grind) rfl (Nat.le_of_ble_eq_true rfl) (Nat.le_of_ble_eq_true rfl) dX6_isOf_37 hQ
            · exact absurd c14 (by decide)
        · refine lv_iconst (v := 1) hx hb dX6_isOf_22 (by decide) ?_
          exact s_zret cf hr hlk () hw (by unfold underF aboveF; grind) rfl (Nat.le_of_ble_eq_true rfl) (Nat.le_of_ble_eq_true rfl) dX6_isOf_23 hQ
  · have e1 : k = 1 := by rw [hkx, e0]; rfl
    subst e1
    refine lv_iload_n hx hb dX6_isOf_0 rfl (lv_at hl 0 rfl) ?_
    refine lv_istore_n (lv' := [(2, .int 1), (0, .int 1), (1, .int o)]) hx hb dX6_isOf_1 rfl hl (by decide) rfl (fun ls hl => ?_)
    refine lv_iconst (v := 0) hx hb dX6_isOf_2 (by decide) ?_
    refine lv_istore_n (lv' := [(3, .int 0), (2, .int 1), (0, .int 1), (1, .int o)]) hx hb dX6_isOf_3 rfl hl (by decide) rfl (fun ls hl => ?_)
    refine lv_iload_n hx hb dX6_isOf_4 rfl (lv_at hl 0 rfl) ?_
    refine lv_bipush (v := 6) hx hb dX6_isOf_5 (by decide) ?_
    refine lv_icmp_ge (tgt := 36) hx hb dX6_isOf_7 (by decide) (fun c7 => ?_) (fun c7 => ?_)
    · exact absurd c7 (by decide)
    · refine lv_iload_n hx hb dX6_isOf_10 rfl (lv_at hl 1 rfl) ?_
      refine s_calli (runS cf (x_isKind 1) hw [] (by decide) rfl km_X6_isKind ks_X6_isKind q350 rfl rfl hl.1 rfl dX6_isOf_11) hw [] (by decide) rfl (fun _ => rfl) (fun r_9 u_7 H locs hp_8 hw => ?_)
      have hw : WD g A s H locs [] := hw
      subst hp_8
      refine lv_topr (y := 1) (by decide) ?_
      refine lv_if_eq (tgt := 36) hx hb dX6_isOf_14 (by decide) (fun c14 => ?_) (fun c14 => ?_)
      · exact absurd c14 (by decide)
      · refine lv_iload_n hx hb dX6_isOf_17 rfl (lv_at hl 1 rfl) ?_
        refine lv_iload_n hx hb dX6_isOf_18 rfl (lv_at hl 3 rfl) ?_
        refine lv_icmp_ne (tgt := 24) hx hb dX6_isOf_19 (by decide) (fun c19 => ?_) (fun c19 => ?_)
        · refine va_gets hx hb (hw.2.2.2.2.2.2.2.2.2.2.1).1 hw.2.2.2.1 hown (hts _ q439) (fun _ h => h) dX6_isOf_24 ?_
          refine lv_iload_n hx hb dX6_isOf_27 rfl (lv_at hl 1 rfl) ?_
          refine va_ti hx hb (hw.2.2.2.2.2.2.2.2.2.2.1).2 hw.2.2.2.1 (i := 1) (v := .int (abF 1)) (by rw [show (1 : Int32) = nI 1 from rfl]; exact vp_in_nI (by decide) (by decide)) (by rw [show (1 : Int32) = nI 1 from rfl, nI_clamp (by omega)]) dX6_isOf_28 ?_
          refine lv_topr (y := 0) (rfl) ?_
          refine lv_istore_n (lv' := [(2, .int 0), (3, .int 0), (0, .int 1), (1, .int o)]) hx hb dX6_isOf_29 rfl hl (by decide) rfl (fun ls hl => ?_)
          refine lv_iinc (v := 1) (lv' := [(3, .int 1), (2, .int 0), (0, .int 1), (1, .int o)]) hx hb dX6_isOf_30 hl (k := 1) rfl (rfl) (by decide) rfl (fun ls hl => ?_)
          refine lv_goto (tgt := 4) hx hb dX6_isOf_33 (by decide) ?_
          refine lv_iload_n hx hb dX6_isOf_4 rfl (lv_at hl 0 rfl) ?_
          refine lv_bipush (v := 6) hx hb dX6_isOf_5 (by decide) ?_
          refine lv_icmp_ge (tgt := 36) hx hb dX6_isOf_7 (by decide) (fun c7 => ?_) (fun c7 => ?_)
          · exact absurd c7 (by decide)
          · refine lv_iload_n hx hb dX6_isOf_10 rfl (lv_at hl 1 rfl) ?_
            refine s_calli (runS cf (x_isKind 0) hw [] (by decide) rfl km_X6_isKind ks_X6_isKind q350 rfl rfl hl.1 rfl dX6_isOf_11) hw [] (by decide) rfl (fun _ => rfl) (fun r_12 u_10 H locs hp_11 hw => ?_)
            have hw : WD g A s H locs [] := hw
            subst hp_11
            refine lv_topr (y := 1) (by decide) ?_
            refine lv_if_eq (tgt := 36) hx hb dX6_isOf_14 (by decide) (fun c14 => ?_) (fun c14 => ?_)
            · exact absurd c14 (by decide)
            · refine lv_iload_n hx hb dX6_isOf_17 rfl (lv_at hl 1 rfl) ?_
              refine lv_iload_n hx hb dX6_isOf_18 rfl (lv_at hl 3 rfl) ?_
              refine lv_icmp_ne (tgt := 24) hx hb dX6_isOf_19 (by decide) (fun c19 => ?_) (fun c19 => ?_)
              · refine va_gets hx hb (hw.2.2.2.2.2.2.2.2.2.2.1).1 hw.2.2.2.1 hown (hts _ q439) (fun _ h => h) dX6_isOf_24 ?_
                refine lv_iload_n hx hb dX6_isOf_27 rfl (lv_at hl 1 rfl) ?_
                refine va_ti hx hb (hw.2.2.2.2.2.2.2.2.2.2.1).2 hw.2.2.2.1 (i := 0) (v := .int (abF 0)) (by rw [show (0 : Int32) = nI 0 from rfl]; exact vp_in_nI (by decide) (by decide)) (by rw [show (0 : Int32) = nI 0 from rfl, nI_clamp (by omega)]) dX6_isOf_28 ?_
                refine lv_topr (y := (-1)) (rfl) ?_
                refine lv_istore_n (lv' := [(2, .int (-1)), (3, .int 1), (0, .int 1), (1, .int o)]) hx hb dX6_isOf_29 rfl hl (by decide) rfl (fun ls hl => ?_)
                refine lv_iinc (v := 2) (lv' := [(3, .int 2), (2, .int (-1)), (0, .int 1), (1, .int o)]) hx hb dX6_isOf_30 hl (k := 1) rfl (rfl) (by decide) rfl (fun ls hl => ?_)
                refine lv_goto (tgt := 4) hx hb dX6_isOf_33 (by decide) ?_
                refine lv_iload_n hx hb dX6_isOf_4 rfl (lv_at hl 0 rfl) ?_
                refine lv_bipush (v := 6) hx hb dX6_isOf_5 (by decide) ?_
                refine lv_icmp_ge (tgt := 36) hx hb dX6_isOf_7 (by decide) (fun c7 => ?_) (fun c7 => ?_)
                · exact absurd c7 (by decide)
                · refine lv_iload_n hx hb dX6_isOf_10 rfl (lv_at hl 1 rfl) ?_
                  refine s_calli (runS cf (x_isKind (-1)) hw [] (by decide) rfl km_X6_isKind ks_X6_isKind q350 rfl rfl hl.1 rfl dX6_isOf_11) hw [] (by decide) rfl (fun _ => rfl) (fun r_15 u_13 H locs hp_14 hw => ?_)
                  have hw : WD g A s H locs [] := hw
                  subst hp_14
                  refine lv_topr (y := 0) (by decide) ?_
                  refine lv_if_eq (tgt := 36) hx hb dX6_isOf_14 (by decide) (fun c14 => ?_) (fun c14 => ?_)
                  · refine lv_iconst (v := 0) hx hb dX6_isOf_36 (by decide) ?_
                    exact s_zret cf hr hlk () hw (by unfold underF aboveF; grind) rfl (Nat.le_of_ble_eq_true rfl) (Nat.le_of_ble_eq_true rfl) dX6_isOf_37 hQ
                  · exact absurd c14 (by decide)
              · refine lv_iconst (v := 1) hx hb dX6_isOf_22 (by decide) ?_
                exact s_zret cf hr hlk () hw (by unfold underF aboveF; grind) rfl (Nat.le_of_ble_eq_true rfl) (Nat.le_of_ble_eq_true rfl) dX6_isOf_23 hQ
        · refine lv_iconst (v := 1) hx hb dX6_isOf_22 (by decide) ?_
          exact s_zret cf hr hlk () hw (by unfold underF aboveF; grind) rfl (Nat.le_of_ble_eq_true rfl) (Nat.le_of_ble_eq_true rfl) dX6_isOf_23 hQ
  · have e1 : k = 2 := by rw [hkx, e0]; rfl
    subst e1
    refine lv_iload_n hx hb dX6_isOf_0 rfl (lv_at hl 0 rfl) ?_
    refine lv_istore_n (lv' := [(2, .int 2), (0, .int 2), (1, .int o)]) hx hb dX6_isOf_1 rfl hl (by decide) rfl (fun ls hl => ?_)
    refine lv_iconst (v := 0) hx hb dX6_isOf_2 (by decide) ?_
    refine lv_istore_n (lv' := [(3, .int 0), (2, .int 2), (0, .int 2), (1, .int o)]) hx hb dX6_isOf_3 rfl hl (by decide) rfl (fun ls hl => ?_)
    refine lv_iload_n hx hb dX6_isOf_4 rfl (lv_at hl 0 rfl) ?_
    refine lv_bipush (v := 6) hx hb dX6_isOf_5 (by decide) ?_
    refine lv_icmp_ge (tgt := 36) hx hb dX6_isOf_7 (by decide) (fun c7 => ?_) (fun c7 => ?_)
    · exact absurd c7 (by decide)
    · refine lv_iload_n hx hb dX6_isOf_10 rfl (lv_at hl 1 rfl) ?_
      refine s_calli (runS cf (x_isKind 2) hw [] (by decide) rfl km_X6_isKind ks_X6_isKind q350 rfl rfl hl.1 rfl dX6_isOf_11) hw [] (by decide) rfl (fun _ => rfl) (fun r_18 u_16 H locs hp_17 hw => ?_)
      have hw : WD g A s H locs [] := hw
      subst hp_17
      refine lv_topr (y := 1) (by decide) ?_
      refine lv_if_eq (tgt := 36) hx hb dX6_isOf_14 (by decide) (fun c14 => ?_) (fun c14 => ?_)
      · exact absurd c14 (by decide)
      · refine lv_iload_n hx hb dX6_isOf_17 rfl (lv_at hl 1 rfl) ?_
        refine lv_iload_n hx hb dX6_isOf_18 rfl (lv_at hl 3 rfl) ?_
        refine lv_icmp_ne (tgt := 24) hx hb dX6_isOf_19 (by decide) (fun c19 => ?_) (fun c19 => ?_)
        · refine va_gets hx hb (hw.2.2.2.2.2.2.2.2.2.2.1).1 hw.2.2.2.1 hown (hts _ q439) (fun _ h => h) dX6_isOf_24 ?_
          refine lv_iload_n hx hb dX6_isOf_27 rfl (lv_at hl 1 rfl) ?_
          refine va_ti hx hb (hw.2.2.2.2.2.2.2.2.2.2.1).2 hw.2.2.2.1 (i := 2) (v := .int (abF 2)) (by rw [show (2 : Int32) = nI 2 from rfl]; exact vp_in_nI (by decide) (by decide)) (by rw [show (2 : Int32) = nI 2 from rfl, nI_clamp (by omega)]) dX6_isOf_28 ?_
          refine lv_topr (y := 0) (rfl) ?_
          refine lv_istore_n (lv' := [(2, .int 0), (3, .int 0), (0, .int 2), (1, .int o)]) hx hb dX6_isOf_29 rfl hl (by decide) rfl (fun ls hl => ?_)
          refine lv_iinc (v := 1) (lv' := [(3, .int 1), (2, .int 0), (0, .int 2), (1, .int o)]) hx hb dX6_isOf_30 hl (k := 1) rfl (rfl) (by decide) rfl (fun ls hl => ?_)
          refine lv_goto (tgt := 4) hx hb dX6_isOf_33 (by decide) ?_
          refine lv_iload_n hx hb dX6_isOf_4 rfl (lv_at hl 0 rfl) ?_
          refine lv_bipush (v := 6) hx hb dX6_isOf_5 (by decide) ?_
          refine lv_icmp_ge (tgt := 36) hx hb dX6_isOf_7 (by decide) (fun c7 => ?_) (fun c7 => ?_)
          · exact absurd c7 (by decide)
          · refine lv_iload_n hx hb dX6_isOf_10 rfl (lv_at hl 1 rfl) ?_
            refine s_calli (runS cf (x_isKind 0) hw [] (by decide) rfl km_X6_isKind ks_X6_isKind q350 rfl rfl hl.1 rfl dX6_isOf_11) hw [] (by decide) rfl (fun _ => rfl) (fun r_21 u_19 H locs hp_20 hw => ?_)
            have hw : WD g A s H locs [] := hw
            subst hp_20
            refine lv_topr (y := 1) (by decide) ?_
            refine lv_if_eq (tgt := 36) hx hb dX6_isOf_14 (by decide) (fun c14 => ?_) (fun c14 => ?_)
            · exact absurd c14 (by decide)
            · refine lv_iload_n hx hb dX6_isOf_17 rfl (lv_at hl 1 rfl) ?_
              refine lv_iload_n hx hb dX6_isOf_18 rfl (lv_at hl 3 rfl) ?_
              refine lv_icmp_ne (tgt := 24) hx hb dX6_isOf_19 (by decide) (fun c19 => ?_) (fun c19 => ?_)
              · refine va_gets hx hb (hw.2.2.2.2.2.2.2.2.2.2.1).1 hw.2.2.2.1 hown (hts _ q439) (fun _ h => h) dX6_isOf_24 ?_
                refine lv_iload_n hx hb dX6_isOf_27 rfl (lv_at hl 1 rfl) ?_
                refine va_ti hx hb (hw.2.2.2.2.2.2.2.2.2.2.1).2 hw.2.2.2.1 (i := 0) (v := .int (abF 0)) (by rw [show (0 : Int32) = nI 0 from rfl]; exact vp_in_nI (by decide) (by decide)) (by rw [show (0 : Int32) = nI 0 from rfl, nI_clamp (by omega)]) dX6_isOf_28 ?_
                refine lv_topr (y := (-1)) (rfl) ?_
                refine lv_istore_n (lv' := [(2, .int (-1)), (3, .int 1), (0, .int 2), (1, .int o)]) hx hb dX6_isOf_29 rfl hl (by decide) rfl (fun ls hl => ?_)
                refine lv_iinc (v := 2) (lv' := [(3, .int 2), (2, .int (-1)), (0, .int 2), (1, .int o)]) hx hb dX6_isOf_30 hl (k := 1) rfl (rfl) (by decide) rfl (fun ls hl => ?_)
                refine lv_goto (tgt := 4) hx hb dX6_isOf_33 (by decide) ?_
                refine lv_iload_n hx hb dX6_isOf_4 rfl (lv_at hl 0 rfl) ?_
                refine lv_bipush (v := 6) hx hb dX6_isOf_5 (by decide) ?_
                refine lv_icmp_ge (tgt := 36) hx hb dX6_isOf_7 (by decide) (fun c7 => ?_) (fun c7 => ?_)
                · exact absurd c7 (by decide)
                · refine lv_iload_n hx hb dX6_isOf_10 rfl (lv_at hl 1 rfl) ?_
                  refine s_calli (runS cf (x_isKind (-1)) hw [] (by decide) rfl km_X6_isKind ks_X6_isKind q350 rfl rfl hl.1 rfl dX6_isOf_11) hw [] (by decide) rfl (fun _ => rfl) (fun r_24 u_22 H locs hp_23 hw => ?_)
                  have hw : WD g A s H locs [] := hw
                  subst hp_23
                  refine lv_topr (y := 0) (by decide) ?_
                  refine lv_if_eq (tgt := 36) hx hb dX6_isOf_14 (by decide) (fun c14 => ?_) (fun c14 => ?_)
                  · refine lv_iconst (v := 0) hx hb dX6_isOf_36 (by decide) ?_
                    exact s_zret cf hr hlk () hw (by unfold underF aboveF; grind) rfl (Nat.le_of_ble_eq_true rfl) (Nat.le_of_ble_eq_true rfl) dX6_isOf_37 hQ
                  · exact absurd c14 (by decide)
              · refine lv_iconst (v := 1) hx hb dX6_isOf_22 (by decide) ?_
                exact s_zret cf hr hlk () hw (by unfold underF aboveF; grind) rfl (Nat.le_of_ble_eq_true rfl) (Nat.le_of_ble_eq_true rfl) dX6_isOf_23 hQ
        · refine lv_iconst (v := 1) hx hb dX6_isOf_22 (by decide) ?_
          exact s_zret cf hr hlk () hw (by unfold underF aboveF; grind) rfl (Nat.le_of_ble_eq_true rfl) (Nat.le_of_ble_eq_true rfl) dX6_isOf_23 hQ
  · have e1 : k = 3 := by rw [hkx, e0]; rfl
    subst e1
    refine lv_iload_n hx hb dX6_isOf_0 rfl (lv_at hl 0 rfl) ?_
    refine lv_istore_n (lv' := [(2, .int 3), (0, .int 3), (1, .int o)]) hx hb dX6_isOf_1 rfl hl (by decide) rfl (fun ls hl => ?_)
    refine lv_iconst (v := 0) hx hb dX6_isOf_2 (by decide) ?_
    refine lv_istore_n (lv' := [(3, .int 0), (2, .int 3), (0, .int 3), (1, .int o)]) hx hb dX6_isOf_3 rfl hl (by decide) rfl (fun ls hl => ?_)
    refine lv_iload_n hx hb dX6_isOf_4 rfl (lv_at hl 0 rfl) ?_
    refine lv_bipush (v := 6) hx hb dX6_isOf_5 (by decide) ?_
    refine lv_icmp_ge (tgt := 36) hx hb dX6_isOf_7 (by decide) (fun c7 => ?_) (fun c7 => ?_)
    · exact absurd c7 (by decide)
    · refine lv_iload_n hx hb dX6_isOf_10 rfl (lv_at hl 1 rfl) ?_
      refine s_calli (runS cf (x_isKind 3) hw [] (by decide) rfl km_X6_isKind ks_X6_isKind q350 rfl rfl hl.1 rfl dX6_isOf_11) hw [] (by decide) rfl (fun _ => rfl) (fun r_27 u_25 H locs hp_26 hw => ?_)
      have hw : WD g A s H locs [] := hw
      subst hp_26
      refine lv_topr (y := 1) (by decide) ?_
      refine lv_if_eq (tgt := 36) hx hb dX6_isOf_14 (by decide) (fun c14 => ?_) (fun c14 => ?_)
      · exact absurd c14 (by decide)
      · refine lv_iload_n hx hb dX6_isOf_17 rfl (lv_at hl 1 rfl) ?_
        refine lv_iload_n hx hb dX6_isOf_18 rfl (lv_at hl 3 rfl) ?_
        refine lv_icmp_ne (tgt := 24) hx hb dX6_isOf_19 (by decide) (fun c19 => ?_) (fun c19 => ?_)
        · refine va_gets hx hb (hw.2.2.2.2.2.2.2.2.2.2.1).1 hw.2.2.2.1 hown (hts _ q439) (fun _ h => h) dX6_isOf_24 ?_
          refine lv_iload_n hx hb dX6_isOf_27 rfl (lv_at hl 1 rfl) ?_
          refine va_ti hx hb (hw.2.2.2.2.2.2.2.2.2.2.1).2 hw.2.2.2.1 (i := 3) (v := .int (abF 3)) (by rw [show (3 : Int32) = nI 3 from rfl]; exact vp_in_nI (by decide) (by decide)) (by rw [show (3 : Int32) = nI 3 from rfl, nI_clamp (by omega)]) dX6_isOf_28 ?_
          refine lv_topr (y := 1) (rfl) ?_
          refine lv_istore_n (lv' := [(2, .int 1), (3, .int 0), (0, .int 3), (1, .int o)]) hx hb dX6_isOf_29 rfl hl (by decide) rfl (fun ls hl => ?_)
          refine lv_iinc (v := 1) (lv' := [(3, .int 1), (2, .int 1), (0, .int 3), (1, .int o)]) hx hb dX6_isOf_30 hl (k := 1) rfl (rfl) (by decide) rfl (fun ls hl => ?_)
          refine lv_goto (tgt := 4) hx hb dX6_isOf_33 (by decide) ?_
          refine lv_iload_n hx hb dX6_isOf_4 rfl (lv_at hl 0 rfl) ?_
          refine lv_bipush (v := 6) hx hb dX6_isOf_5 (by decide) ?_
          refine lv_icmp_ge (tgt := 36) hx hb dX6_isOf_7 (by decide) (fun c7 => ?_) (fun c7 => ?_)
          · exact absurd c7 (by decide)
          · refine lv_iload_n hx hb dX6_isOf_10 rfl (lv_at hl 1 rfl) ?_
            refine s_calli (runS cf (x_isKind 1) hw [] (by decide) rfl km_X6_isKind ks_X6_isKind q350 rfl rfl hl.1 rfl dX6_isOf_11) hw [] (by decide) rfl (fun _ => rfl) (fun r_30 u_28 H locs hp_29 hw => ?_)
            have hw : WD g A s H locs [] := hw
            subst hp_29
            refine lv_topr (y := 1) (by decide) ?_
            refine lv_if_eq (tgt := 36) hx hb dX6_isOf_14 (by decide) (fun c14 => ?_) (fun c14 => ?_)
            · exact absurd c14 (by decide)
            · refine lv_iload_n hx hb dX6_isOf_17 rfl (lv_at hl 1 rfl) ?_
              refine lv_iload_n hx hb dX6_isOf_18 rfl (lv_at hl 3 rfl) ?_
              refine lv_icmp_ne (tgt := 24) hx hb dX6_isOf_19 (by decide) (fun c19 => ?_) (fun c19 => ?_)
              · refine va_gets hx hb (hw.2.2.2.2.2.2.2.2.2.2.1).1 hw.2.2.2.1 hown (hts _ q439) (fun _ h => h) dX6_isOf_24 ?_
                refine lv_iload_n hx hb dX6_isOf_27 rfl (lv_at hl 1 rfl) ?_
                refine va_ti hx hb (hw.2.2.2.2.2.2.2.2.2.2.1).2 hw.2.2.2.1 (i := 1) (v := .int (abF 1)) (by rw [show (1 : Int32) = nI 1 from rfl]; exact vp_in_nI (by decide) (by decide)) (by rw [show (1 : Int32) = nI 1 from rfl, nI_clamp (by omega)]) dX6_isOf_28 ?_
                refine lv_topr (y := 0) (rfl) ?_
                refine lv_istore_n (lv' := [(2, .int 0), (3, .int 1), (0, .int 3), (1, .int o)]) hx hb dX6_isOf_29 rfl hl (by decide) rfl (fun ls hl => ?_)
                refine lv_iinc (v := 2) (lv' := [(3, .int 2), (2, .int 0), (0, .int 3), (1, .int o)]) hx hb dX6_isOf_30 hl (k := 1) rfl (rfl) (by decide) rfl (fun ls hl => ?_)
                refine lv_goto (tgt := 4) hx hb dX6_isOf_33 (by decide) ?_
                refine lv_iload_n hx hb dX6_isOf_4 rfl (lv_at hl 0 rfl) ?_
                refine lv_bipush (v := 6) hx hb dX6_isOf_5 (by decide) ?_
                refine lv_icmp_ge (tgt := 36) hx hb dX6_isOf_7 (by decide) (fun c7 => ?_) (fun c7 => ?_)
                · exact absurd c7 (by decide)
                · refine lv_iload_n hx hb dX6_isOf_10 rfl (lv_at hl 1 rfl) ?_
                  refine s_calli (runS cf (x_isKind 0) hw [] (by decide) rfl km_X6_isKind ks_X6_isKind q350 rfl rfl hl.1 rfl dX6_isOf_11) hw [] (by decide) rfl (fun _ => rfl) (fun r_33 u_31 H locs hp_32 hw => ?_)
                  have hw : WD g A s H locs [] := hw
                  subst hp_32
                  refine lv_topr (y := 1) (by decide) ?_
                  refine lv_if_eq (tgt := 36) hx hb dX6_isOf_14 (by decide) (fun c14 => ?_) (fun c14 => ?_)
                  · exact absurd c14 (by decide)
                  · refine lv_iload_n hx hb dX6_isOf_17 rfl (lv_at hl 1 rfl) ?_
                    refine lv_iload_n hx hb dX6_isOf_18 rfl (lv_at hl 3 rfl) ?_
                    refine lv_icmp_ne (tgt := 24) hx hb dX6_isOf_19 (by decide) (fun c19 => ?_) (fun c19 => ?_)
                    · refine va_gets hx hb (hw.2.2.2.2.2.2.2.2.2.2.1).1 hw.2.2.2.1 hown (hts _ q439) (fun _ h => h) dX6_isOf_24 ?_
                      refine lv_iload_n hx hb dX6_isOf_27 rfl (lv_at hl 1 rfl) ?_
                      refine va_ti hx hb (hw.2.2.2.2.2.2.2.2.2.2.1).2 hw.2.2.2.1 (i := 0) (v := .int (abF 0)) (by rw [show (0 : Int32) = nI 0 from rfl]; exact vp_in_nI (by decide) (by decide)) (by rw [show (0 : Int32) = nI 0 from rfl, nI_clamp (by omega)]) dX6_isOf_28 ?_
                      refine lv_topr (y := (-1)) (rfl) ?_
                      refine lv_istore_n (lv' := [(2, .int (-1)), (3, .int 2), (0, .int 3), (1, .int o)]) hx hb dX6_isOf_29 rfl hl (by decide) rfl (fun ls hl => ?_)
                      refine lv_iinc (v := 3) (lv' := [(3, .int 3), (2, .int (-1)), (0, .int 3), (1, .int o)]) hx hb dX6_isOf_30 hl (k := 1) rfl (rfl) (by decide) rfl (fun ls hl => ?_)
                      refine lv_goto (tgt := 4) hx hb dX6_isOf_33 (by decide) ?_
                      refine lv_iload_n hx hb dX6_isOf_4 rfl (lv_at hl 0 rfl) ?_
                      refine lv_bipush (v := 6) hx hb dX6_isOf_5 (by decide) ?_
                      refine lv_icmp_ge (tgt := 36) hx hb dX6_isOf_7 (by decide) (fun c7 => ?_) (fun c7 => ?_)
                      · exact absurd c7 (by decide)
                      · refine lv_iload_n hx hb dX6_isOf_10 rfl (lv_at hl 1 rfl) ?_
                        refine s_calli (runS cf (x_isKind (-1)) hw [] (by decide) rfl km_X6_isKind ks_X6_isKind q350 rfl rfl hl.1 rfl dX6_isOf_11) hw [] (by decide) rfl (fun _ => rfl) (fun r_36 u_34 H locs hp_35 hw => ?_)
                        have hw : WD g A s H locs [] := hw
                        subst hp_35
                        refine lv_topr (y := 0) (by decide) ?_
                        refine lv_if_eq (tgt := 36) hx hb dX6_isOf_14 (by decide) (fun c14 => ?_) (fun c14 => ?_)
                        · refine lv_iconst (v := 0) hx hb dX6_isOf_36 (by decide) ?_
                          exact s_zret cf hr hlk () hw (by unfold underF aboveF; grind) rfl (Nat.le_of_ble_eq_true rfl) (Nat.le_of_ble_eq_true rfl) dX6_isOf_37 hQ
                        · exact absurd c14 (by decide)
                    · refine lv_iconst (v := 1) hx hb dX6_isOf_22 (by decide) ?_
                      exact s_zret cf hr hlk () hw (by unfold underF aboveF; grind) rfl (Nat.le_of_ble_eq_true rfl) (Nat.le_of_ble_eq_true rfl) dX6_isOf_23 hQ
              · refine lv_iconst (v := 1) hx hb dX6_isOf_22 (by decide) ?_
                exact s_zret cf hr hlk () hw (by unfold underF aboveF; grind) rfl (Nat.le_of_ble_eq_true rfl) (Nat.le_of_ble_eq_true rfl) dX6_isOf_23 hQ
        · refine lv_iconst (v := 1) hx hb dX6_isOf_22 (by decide) ?_
          exact s_zret cf hr hlk () hw (by unfold underF aboveF; grind) rfl (Nat.le_of_ble_eq_true rfl) (Nat.le_of_ble_eq_true rfl) dX6_isOf_23 hQ
  · have e1 : k = 4 := by rw [hkx, e0]; rfl
    subst e1
    refine lv_iload_n hx hb dX6_isOf_0 rfl (lv_at hl 0 rfl) ?_
    refine lv_istore_n (lv' := [(2, .int 4), (0, .int 4), (1, .int o)]) hx hb dX6_isOf_1 rfl hl (by decide) rfl (fun ls hl => ?_)
    refine lv_iconst (v := 0) hx hb dX6_isOf_2 (by decide) ?_
    refine lv_istore_n (lv' := [(3, .int 0), (2, .int 4), (0, .int 4), (1, .int o)]) hx hb dX6_isOf_3 rfl hl (by decide) rfl (fun ls hl => ?_)
    refine lv_iload_n hx hb dX6_isOf_4 rfl (lv_at hl 0 rfl) ?_
    refine lv_bipush (v := 6) hx hb dX6_isOf_5 (by decide) ?_
    refine lv_icmp_ge (tgt := 36) hx hb dX6_isOf_7 (by decide) (fun c7 => ?_) (fun c7 => ?_)
    · exact absurd c7 (by decide)
    · refine lv_iload_n hx hb dX6_isOf_10 rfl (lv_at hl 1 rfl) ?_
      refine s_calli (runS cf (x_isKind 4) hw [] (by decide) rfl km_X6_isKind ks_X6_isKind q350 rfl rfl hl.1 rfl dX6_isOf_11) hw [] (by decide) rfl (fun _ => rfl) (fun r_39 u_37 H locs hp_38 hw => ?_)
      have hw : WD g A s H locs [] := hw
      subst hp_38
      refine lv_topr (y := 1) (by decide) ?_
      refine lv_if_eq (tgt := 36) hx hb dX6_isOf_14 (by decide) (fun c14 => ?_) (fun c14 => ?_)
      · exact absurd c14 (by decide)
      · refine lv_iload_n hx hb dX6_isOf_17 rfl (lv_at hl 1 rfl) ?_
        refine lv_iload_n hx hb dX6_isOf_18 rfl (lv_at hl 3 rfl) ?_
        refine lv_icmp_ne (tgt := 24) hx hb dX6_isOf_19 (by decide) (fun c19 => ?_) (fun c19 => ?_)
        · refine va_gets hx hb (hw.2.2.2.2.2.2.2.2.2.2.1).1 hw.2.2.2.1 hown (hts _ q439) (fun _ h => h) dX6_isOf_24 ?_
          refine lv_iload_n hx hb dX6_isOf_27 rfl (lv_at hl 1 rfl) ?_
          refine va_ti hx hb (hw.2.2.2.2.2.2.2.2.2.2.1).2 hw.2.2.2.1 (i := 4) (v := .int (abF 4)) (by rw [show (4 : Int32) = nI 4 from rfl]; exact vp_in_nI (by decide) (by decide)) (by rw [show (4 : Int32) = nI 4 from rfl, nI_clamp (by omega)]) dX6_isOf_28 ?_
          refine lv_topr (y := 2) (rfl) ?_
          refine lv_istore_n (lv' := [(2, .int 2), (3, .int 0), (0, .int 4), (1, .int o)]) hx hb dX6_isOf_29 rfl hl (by decide) rfl (fun ls hl => ?_)
          refine lv_iinc (v := 1) (lv' := [(3, .int 1), (2, .int 2), (0, .int 4), (1, .int o)]) hx hb dX6_isOf_30 hl (k := 1) rfl (rfl) (by decide) rfl (fun ls hl => ?_)
          refine lv_goto (tgt := 4) hx hb dX6_isOf_33 (by decide) ?_
          refine lv_iload_n hx hb dX6_isOf_4 rfl (lv_at hl 0 rfl) ?_
          refine lv_bipush (v := 6) hx hb dX6_isOf_5 (by decide) ?_
          refine lv_icmp_ge (tgt := 36) hx hb dX6_isOf_7 (by decide) (fun c7 => ?_) (fun c7 => ?_)
          · exact absurd c7 (by decide)
          · refine lv_iload_n hx hb dX6_isOf_10 rfl (lv_at hl 1 rfl) ?_
            refine s_calli (runS cf (x_isKind 2) hw [] (by decide) rfl km_X6_isKind ks_X6_isKind q350 rfl rfl hl.1 rfl dX6_isOf_11) hw [] (by decide) rfl (fun _ => rfl) (fun r_42 u_40 H locs hp_41 hw => ?_)
            have hw : WD g A s H locs [] := hw
            subst hp_41
            refine lv_topr (y := 1) (by decide) ?_
            refine lv_if_eq (tgt := 36) hx hb dX6_isOf_14 (by decide) (fun c14 => ?_) (fun c14 => ?_)
            · exact absurd c14 (by decide)
            · refine lv_iload_n hx hb dX6_isOf_17 rfl (lv_at hl 1 rfl) ?_
              refine lv_iload_n hx hb dX6_isOf_18 rfl (lv_at hl 3 rfl) ?_
              refine lv_icmp_ne (tgt := 24) hx hb dX6_isOf_19 (by decide) (fun c19 => ?_) (fun c19 => ?_)
              · refine va_gets hx hb (hw.2.2.2.2.2.2.2.2.2.2.1).1 hw.2.2.2.1 hown (hts _ q439) (fun _ h => h) dX6_isOf_24 ?_
                refine lv_iload_n hx hb dX6_isOf_27 rfl (lv_at hl 1 rfl) ?_
                refine va_ti hx hb (hw.2.2.2.2.2.2.2.2.2.2.1).2 hw.2.2.2.1 (i := 2) (v := .int (abF 2)) (by rw [show (2 : Int32) = nI 2 from rfl]; exact vp_in_nI (by decide) (by decide)) (by rw [show (2 : Int32) = nI 2 from rfl, nI_clamp (by omega)]) dX6_isOf_28 ?_
                refine lv_topr (y := 0) (rfl) ?_
                refine lv_istore_n (lv' := [(2, .int 0), (3, .int 1), (0, .int 4), (1, .int o)]) hx hb dX6_isOf_29 rfl hl (by decide) rfl (fun ls hl => ?_)
                refine lv_iinc (v := 2) (lv' := [(3, .int 2), (2, .int 0), (0, .int 4), (1, .int o)]) hx hb dX6_isOf_30 hl (k := 1) rfl (rfl) (by decide) rfl (fun ls hl => ?_)
                refine lv_goto (tgt := 4) hx hb dX6_isOf_33 (by decide) ?_
                refine lv_iload_n hx hb dX6_isOf_4 rfl (lv_at hl 0 rfl) ?_
                refine lv_bipush (v := 6) hx hb dX6_isOf_5 (by decide) ?_
                refine lv_icmp_ge (tgt := 36) hx hb dX6_isOf_7 (by decide) (fun c7 => ?_) (fun c7 => ?_)
                · exact absurd c7 (by decide)
                · refine lv_iload_n hx hb dX6_isOf_10 rfl (lv_at hl 1 rfl) ?_
                  refine s_calli (runS cf (x_isKind 0) hw [] (by decide) rfl km_X6_isKind ks_X6_isKind q350 rfl rfl hl.1 rfl dX6_isOf_11) hw [] (by decide) rfl (fun _ => rfl) (fun r_45 u_43 H locs hp_44 hw => ?_)
                  have hw : WD g A s H locs [] := hw
                  subst hp_44
                  refine lv_topr (y := 1) (by decide) ?_
                  refine lv_if_eq (tgt := 36) hx hb dX6_isOf_14 (by decide) (fun c14 => ?_) (fun c14 => ?_)
                  · exact absurd c14 (by decide)
                  · refine lv_iload_n hx hb dX6_isOf_17 rfl (lv_at hl 1 rfl) ?_
                    refine lv_iload_n hx hb dX6_isOf_18 rfl (lv_at hl 3 rfl) ?_
                    refine lv_icmp_ne (tgt := 24) hx hb dX6_isOf_19 (by decide) (fun c19 => ?_) (fun c19 => ?_)
                    · refine va_gets hx hb (hw.2.2.2.2.2.2.2.2.2.2.1).1 hw.2.2.2.1 hown (hts _ q439) (fun _ h => h) dX6_isOf_24 ?_
                      refine lv_iload_n hx hb dX6_isOf_27 rfl (lv_at hl 1 rfl) ?_
                      refine va_ti hx hb (hw.2.2.2.2.2.2.2.2.2.2.1).2 hw.2.2.2.1 (i := 0) (v := .int (abF 0)) (by rw [show (0 : Int32) = nI 0 from rfl]; exact vp_in_nI (by decide) (by decide)) (by rw [show (0 : Int32) = nI 0 from rfl, nI_clamp (by omega)]) dX6_isOf_28 ?_
                      refine lv_topr (y := (-1)) (rfl) ?_
                      refine lv_istore_n (lv' := [(2, .int (-1)), (3, .int 2), (0, .int 4), (1, .int o)]) hx hb dX6_isOf_29 rfl hl (by decide) rfl (fun ls hl => ?_)
                      refine lv_iinc (v := 3) (lv' := [(3, .int 3), (2, .int (-1)), (0, .int 4), (1, .int o)]) hx hb dX6_isOf_30 hl (k := 1) rfl (rfl) (by decide) rfl (fun ls hl => ?_)
                      refine lv_goto (tgt := 4) hx hb dX6_isOf_33 (by decide) ?_
                      refine lv_iload_n hx hb dX6_isOf_4 rfl (lv_at hl 0 rfl) ?_
                      refine lv_bipush (v := 6) hx hb dX6_isOf_5 (by decide) ?_
                      refine lv_icmp_ge (tgt := 36) hx hb dX6_isOf_7 (by decide) (fun c7 => ?_) (fun c7 => ?_)
                      · exact absurd c7 (by decide)
                      · refine lv_iload_n hx hb dX6_isOf_10 rfl (lv_at hl 1 rfl) ?_
                        refine s_calli (runS cf (x_isKind (-1)) hw [] (by decide) rfl km_X6_isKind ks_X6_isKind q350 rfl rfl hl.1 rfl dX6_isOf_11) hw [] (by decide) rfl (fun _ => rfl) (fun r_48 u_46 H locs hp_47 hw => ?_)
                        have hw : WD g A s H locs [] := hw
                        subst hp_47
                        refine lv_topr (y := 0) (by decide) ?_
                        refine lv_if_eq (tgt := 36) hx hb dX6_isOf_14 (by decide) (fun c14 => ?_) (fun c14 => ?_)
                        · refine lv_iconst (v := 0) hx hb dX6_isOf_36 (by decide) ?_
                          exact s_zret cf hr hlk () hw (by unfold underF aboveF; grind) rfl (Nat.le_of_ble_eq_true rfl) (Nat.le_of_ble_eq_true rfl) dX6_isOf_37 hQ
                        · exact absurd c14 (by decide)
                    · refine lv_iconst (v := 1) hx hb dX6_isOf_22 (by decide) ?_
                      exact s_zret cf hr hlk () hw (by unfold underF aboveF; grind) rfl (Nat.le_of_ble_eq_true rfl) (Nat.le_of_ble_eq_true rfl) dX6_isOf_23 hQ
              · refine lv_iconst (v := 1) hx hb dX6_isOf_22 (by decide) ?_
                exact s_zret cf hr hlk () hw (by unfold underF aboveF; grind) rfl (Nat.le_of_ble_eq_true rfl) (Nat.le_of_ble_eq_true rfl) dX6_isOf_23 hQ
        · refine lv_iconst (v := 1) hx hb dX6_isOf_22 (by decide) ?_
          exact s_zret cf hr hlk () hw (by unfold underF aboveF; grind) rfl (Nat.le_of_ble_eq_true rfl) (Nat.le_of_ble_eq_true rfl) dX6_isOf_23 hQ
  · have e1 : k = 5 := by rw [hkx, e0]; rfl
    subst e1
    refine lv_iload_n hx hb dX6_isOf_0 rfl (lv_at hl 0 rfl) ?_
    refine lv_istore_n (lv' := [(2, .int 5), (0, .int 5), (1, .int o)]) hx hb dX6_isOf_1 rfl hl (by decide) rfl (fun ls hl => ?_)
    refine lv_iconst (v := 0) hx hb dX6_isOf_2 (by decide) ?_
    refine lv_istore_n (lv' := [(3, .int 0), (2, .int 5), (0, .int 5), (1, .int o)]) hx hb dX6_isOf_3 rfl hl (by decide) rfl (fun ls hl => ?_)
    refine lv_iload_n hx hb dX6_isOf_4 rfl (lv_at hl 0 rfl) ?_
    refine lv_bipush (v := 6) hx hb dX6_isOf_5 (by decide) ?_
    refine lv_icmp_ge (tgt := 36) hx hb dX6_isOf_7 (by decide) (fun c7 => ?_) (fun c7 => ?_)
    · exact absurd c7 (by decide)
    · refine lv_iload_n hx hb dX6_isOf_10 rfl (lv_at hl 1 rfl) ?_
      refine s_calli (runS cf (x_isKind 5) hw [] (by decide) rfl km_X6_isKind ks_X6_isKind q350 rfl rfl hl.1 rfl dX6_isOf_11) hw [] (by decide) rfl (fun _ => rfl) (fun r_51 u_49 H locs hp_50 hw => ?_)
      have hw : WD g A s H locs [] := hw
      subst hp_50
      refine lv_topr (y := 1) (by decide) ?_
      refine lv_if_eq (tgt := 36) hx hb dX6_isOf_14 (by decide) (fun c14 => ?_) (fun c14 => ?_)
      · exact absurd c14 (by decide)
      · refine lv_iload_n hx hb dX6_isOf_17 rfl (lv_at hl 1 rfl) ?_
        refine lv_iload_n hx hb dX6_isOf_18 rfl (lv_at hl 3 rfl) ?_
        refine lv_icmp_ne (tgt := 24) hx hb dX6_isOf_19 (by decide) (fun c19 => ?_) (fun c19 => ?_)
        · refine va_gets hx hb (hw.2.2.2.2.2.2.2.2.2.2.1).1 hw.2.2.2.1 hown (hts _ q439) (fun _ h => h) dX6_isOf_24 ?_
          refine lv_iload_n hx hb dX6_isOf_27 rfl (lv_at hl 1 rfl) ?_
          refine va_ti hx hb (hw.2.2.2.2.2.2.2.2.2.2.1).2 hw.2.2.2.1 (i := 5) (v := .int (abF 5)) (by rw [show (5 : Int32) = nI 5 from rfl]; exact vp_in_nI (by decide) (by decide)) (by rw [show (5 : Int32) = nI 5 from rfl, nI_clamp (by omega)]) dX6_isOf_28 ?_
          refine lv_topr (y := 0) (rfl) ?_
          refine lv_istore_n (lv' := [(2, .int 0), (3, .int 0), (0, .int 5), (1, .int o)]) hx hb dX6_isOf_29 rfl hl (by decide) rfl (fun ls hl => ?_)
          refine lv_iinc (v := 1) (lv' := [(3, .int 1), (2, .int 0), (0, .int 5), (1, .int o)]) hx hb dX6_isOf_30 hl (k := 1) rfl (rfl) (by decide) rfl (fun ls hl => ?_)
          refine lv_goto (tgt := 4) hx hb dX6_isOf_33 (by decide) ?_
          refine lv_iload_n hx hb dX6_isOf_4 rfl (lv_at hl 0 rfl) ?_
          refine lv_bipush (v := 6) hx hb dX6_isOf_5 (by decide) ?_
          refine lv_icmp_ge (tgt := 36) hx hb dX6_isOf_7 (by decide) (fun c7 => ?_) (fun c7 => ?_)
          · exact absurd c7 (by decide)
          · refine lv_iload_n hx hb dX6_isOf_10 rfl (lv_at hl 1 rfl) ?_
            refine s_calli (runS cf (x_isKind 0) hw [] (by decide) rfl km_X6_isKind ks_X6_isKind q350 rfl rfl hl.1 rfl dX6_isOf_11) hw [] (by decide) rfl (fun _ => rfl) (fun r_54 u_52 H locs hp_53 hw => ?_)
            have hw : WD g A s H locs [] := hw
            subst hp_53
            refine lv_topr (y := 1) (by decide) ?_
            refine lv_if_eq (tgt := 36) hx hb dX6_isOf_14 (by decide) (fun c14 => ?_) (fun c14 => ?_)
            · exact absurd c14 (by decide)
            · refine lv_iload_n hx hb dX6_isOf_17 rfl (lv_at hl 1 rfl) ?_
              refine lv_iload_n hx hb dX6_isOf_18 rfl (lv_at hl 3 rfl) ?_
              refine lv_icmp_ne (tgt := 24) hx hb dX6_isOf_19 (by decide) (fun c19 => ?_) (fun c19 => ?_)
              · refine va_gets hx hb (hw.2.2.2.2.2.2.2.2.2.2.1).1 hw.2.2.2.1 hown (hts _ q439) (fun _ h => h) dX6_isOf_24 ?_
                refine lv_iload_n hx hb dX6_isOf_27 rfl (lv_at hl 1 rfl) ?_
                refine va_ti hx hb (hw.2.2.2.2.2.2.2.2.2.2.1).2 hw.2.2.2.1 (i := 0) (v := .int (abF 0)) (by rw [show (0 : Int32) = nI 0 from rfl]; exact vp_in_nI (by decide) (by decide)) (by rw [show (0 : Int32) = nI 0 from rfl, nI_clamp (by omega)]) dX6_isOf_28 ?_
                refine lv_topr (y := (-1)) (rfl) ?_
                refine lv_istore_n (lv' := [(2, .int (-1)), (3, .int 1), (0, .int 5), (1, .int o)]) hx hb dX6_isOf_29 rfl hl (by decide) rfl (fun ls hl => ?_)
                refine lv_iinc (v := 2) (lv' := [(3, .int 2), (2, .int (-1)), (0, .int 5), (1, .int o)]) hx hb dX6_isOf_30 hl (k := 1) rfl (rfl) (by decide) rfl (fun ls hl => ?_)
                refine lv_goto (tgt := 4) hx hb dX6_isOf_33 (by decide) ?_
                refine lv_iload_n hx hb dX6_isOf_4 rfl (lv_at hl 0 rfl) ?_
                refine lv_bipush (v := 6) hx hb dX6_isOf_5 (by decide) ?_
                refine lv_icmp_ge (tgt := 36) hx hb dX6_isOf_7 (by decide) (fun c7 => ?_) (fun c7 => ?_)
                · exact absurd c7 (by decide)
                · refine lv_iload_n hx hb dX6_isOf_10 rfl (lv_at hl 1 rfl) ?_
                  refine s_calli (runS cf (x_isKind (-1)) hw [] (by decide) rfl km_X6_isKind ks_X6_isKind q350 rfl rfl hl.1 rfl dX6_isOf_11) hw [] (by decide) rfl (fun _ => rfl) (fun r_57 u_55 H locs hp_56 hw => ?_)
                  have hw : WD g A s H locs [] := hw
                  subst hp_56
                  refine lv_topr (y := 0) (by decide) ?_
                  refine lv_if_eq (tgt := 36) hx hb dX6_isOf_14 (by decide) (fun c14 => ?_) (fun c14 => ?_)
                  · refine lv_iconst (v := 0) hx hb dX6_isOf_36 (by decide) ?_
                    exact s_zret cf hr hlk () hw (by unfold underF aboveF; grind) rfl (Nat.le_of_ble_eq_true rfl) (Nat.le_of_ble_eq_true rfl) dX6_isOf_37 hQ
                  · exact absurd c14 (by decide)
              · refine lv_iconst (v := 1) hx hb dX6_isOf_22 (by decide) ?_
                exact s_zret cf hr hlk () hw (by unfold underF aboveF; grind) rfl (Nat.le_of_ble_eq_true rfl) (Nat.le_of_ble_eq_true rfl) dX6_isOf_23 hQ
        · refine lv_iconst (v := 1) hx hb dX6_isOf_22 (by decide) ?_
          exact s_zret cf hr hlk () hw (by unfold underF aboveF; grind) rfl (Nat.le_of_ble_eq_true rfl) (Nat.le_of_ble_eq_true rfl) dX6_isOf_23 hQ
set_option maxRecDepth 100000 in
set_option maxHeartbeats 4000000 in
theorem x_bitCount {l : Launch} {g : GG} (x : Int32) : Ct l g yJ6_bitCount_0f7a4 cJ6_bitCount_0f7a4 1 (Option.some Jvm.ClassFile.FieldType.int) 0 0 0 [.int x] [] (QI g (fun r (_ : Unit) => r = bitF x) (fun _ => [])) := by
  refine Ct.of (by decide) rfl ?_
  intro p e s m args below meth c A H locs ls Qf cf hr hlk hnm hQ hw hl
  have hx := cf.1
  have hb := cf.2.1
  have hml := cf.2.2.1
  have hown := cf.2.2.2.1
  have hts := cf.2.2.2.2
  have hw : WD g A s H locs [] := hw
  have hl : lv_has ls 1 [(0, .int x)] := hl
  refine lv_iload_n hx hb dJ6_bitCount_0f7a4_0 rfl (lv_at hl 0 rfl) ?_
  refine lv_iload_n hx hb dJ6_bitCount_0f7a4_1 rfl (lv_at hl 0 rfl) ?_
  refine lv_iconst (v := 1) hx hb dJ6_bitCount_0f7a4_2 (by decide) ?_
  refine lv_iushr (v := (x.toUInt32 >>> ((1 : Int32).toUInt32 &&& Int32.toUInt32 31)).toInt32) hx hb dJ6_bitCount_0f7a4_3 rfl ?_
  refine lv_ldcw hx hb hown (hts _ q414) dJ6_bitCount_0f7a4_4 ?_
  refine lv_iand hx hb dJ6_bitCount_0f7a4_7 ?_
  refine lv_isub hx hb dJ6_bitCount_0f7a4_8 ?_
  refine lv_topr (y := bc1 x) (rfl) ?_
  refine lv_istore_n (lv' := [(0, .int (bc1 x))]) hx hb dJ6_bitCount_0f7a4_9 rfl hl (by decide) rfl (fun ls hl => ?_)
  refine lv_iload_n hx hb dJ6_bitCount_0f7a4_10 rfl (lv_at hl 0 rfl) ?_
  refine lv_ldcw hx hb hown (hts _ q415) dJ6_bitCount_0f7a4_11 ?_
  refine lv_iand hx hb dJ6_bitCount_0f7a4_14 ?_
  refine lv_iload_n hx hb dJ6_bitCount_0f7a4_15 rfl (lv_at hl 0 rfl) ?_
  refine lv_iconst (v := 2) hx hb dJ6_bitCount_0f7a4_16 (by decide) ?_
  refine lv_iushr (v := ((bc1 x).toUInt32 >>> ((2 : Int32).toUInt32 &&& Int32.toUInt32 31)).toInt32) hx hb dJ6_bitCount_0f7a4_17 rfl ?_
  refine lv_ldcw hx hb hown (hts _ q415) dJ6_bitCount_0f7a4_18 ?_
  refine lv_iand hx hb dJ6_bitCount_0f7a4_21 ?_
  refine lv_iadd hx hb dJ6_bitCount_0f7a4_22 ?_
  refine lv_topr (y := bc2 (bc1 x)) (rfl) ?_
  refine lv_istore_n (lv' := [(0, .int (bc2 (bc1 x)))]) hx hb dJ6_bitCount_0f7a4_23 rfl hl (by decide) rfl (fun ls hl => ?_)
  refine lv_iload_n hx hb dJ6_bitCount_0f7a4_24 rfl (lv_at hl 0 rfl) ?_
  refine lv_iload_n hx hb dJ6_bitCount_0f7a4_25 rfl (lv_at hl 0 rfl) ?_
  refine lv_iconst (v := 4) hx hb dJ6_bitCount_0f7a4_26 (by decide) ?_
  refine lv_iushr (v := ((bc2 (bc1 x)).toUInt32 >>> ((4 : Int32).toUInt32 &&& Int32.toUInt32 31)).toInt32) hx hb dJ6_bitCount_0f7a4_27 rfl ?_
  refine lv_iadd hx hb dJ6_bitCount_0f7a4_28 ?_
  refine lv_ldcw hx hb hown (hts _ q416) dJ6_bitCount_0f7a4_29 ?_
  refine lv_iand hx hb dJ6_bitCount_0f7a4_32 ?_
  refine lv_topr (y := bc3 (bc2 (bc1 x))) (rfl) ?_
  refine lv_istore_n (lv' := [(0, .int (bc3 (bc2 (bc1 x))))]) hx hb dJ6_bitCount_0f7a4_33 rfl hl (by decide) rfl (fun ls hl => ?_)
  refine lv_iload_n hx hb dJ6_bitCount_0f7a4_34 rfl (lv_at hl 0 rfl) ?_
  refine lv_iload_n hx hb dJ6_bitCount_0f7a4_35 rfl (lv_at hl 0 rfl) ?_
  refine lv_bipush (v := 8) hx hb dJ6_bitCount_0f7a4_36 (by decide) ?_
  refine lv_iushr (v := ((bc3 (bc2 (bc1 x))).toUInt32 >>> ((8 : Int32).toUInt32 &&& Int32.toUInt32 31)).toInt32) hx hb dJ6_bitCount_0f7a4_38 rfl ?_
  refine lv_iadd hx hb dJ6_bitCount_0f7a4_39 ?_
  refine lv_topr (y := bc4 (bc3 (bc2 (bc1 x)))) (rfl) ?_
  refine lv_istore_n (lv' := [(0, .int (bc4 (bc3 (bc2 (bc1 x)))))]) hx hb dJ6_bitCount_0f7a4_40 rfl hl (by decide) rfl (fun ls hl => ?_)
  refine lv_iload_n hx hb dJ6_bitCount_0f7a4_41 rfl (lv_at hl 0 rfl) ?_
  refine lv_iload_n hx hb dJ6_bitCount_0f7a4_42 rfl (lv_at hl 0 rfl) ?_
  refine lv_bipush (v := 16) hx hb dJ6_bitCount_0f7a4_43 (by decide) ?_
  refine lv_iushr (v := ((bc4 (bc3 (bc2 (bc1 x)))).toUInt32 >>> ((16 : Int32).toUInt32 &&& Int32.toUInt32 31)).toInt32) hx hb dJ6_bitCount_0f7a4_45 rfl ?_
  refine lv_iadd hx hb dJ6_bitCount_0f7a4_46 ?_
  refine lv_topr (y := bc5 (bc4 (bc3 (bc2 (bc1 x))))) (rfl) ?_
  refine lv_istore_n (lv' := [(0, .int (bc5 (bc4 (bc3 (bc2 (bc1 x))))))]) hx hb dJ6_bitCount_0f7a4_47 rfl hl (by decide) rfl (fun ls hl => ?_)
  refine lv_iload_n hx hb dJ6_bitCount_0f7a4_48 rfl (lv_at hl 0 rfl) ?_
  refine lv_bipush (v := 63) hx hb dJ6_bitCount_0f7a4_49 (by decide) ?_
  refine lv_iand hx hb dJ6_bitCount_0f7a4_51 ?_
  exact s_iret cf hr hlk () hw rfl (Nat.le_of_ble_eq_true rfl) (Nat.le_of_ble_eq_true rfl) dJ6_bitCount_0f7a4_52 hQ
