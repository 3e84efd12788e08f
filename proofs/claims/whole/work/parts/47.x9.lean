set_option maxRecDepth 100000 in
set_option maxHeartbeats 4000000 in
theorem c_terrace {l : Launch} {g : GG} {t : Nat} {lad ad : Nat → Nat} {d cn : DD} (hI : InvH d) {n : Nat} (hn : d 0 = nI n) (hn10 : n ≤ 10) {o t2 t3 : Nat} {ch : Nat → Nat} {kp tp wt : Int32} (w : Int32) : Ct l g yX6_terrace cX6_terrace 2 (Option.some Jvm.ClassFile.FieldType.int) 2 0 0 [.ref o, .int w] [bO t 4 (tF (lad 0) ad (d 0) (d 9) (d 5) (d 6) (d 7) (d 1) (d 8)), bI g (ad 1) 10 (col d 0), bI g (ad 2) 10 (col d 1), bI g (ad 3) 10 (col d 2), bI g (ad 4) 10 (col d 3), bI g (ad 5) 10 (col d 4), bI g (ad 6) 3 (rulF d), bI g (ad 7) 3 cn, bO o 6 (cF (lad 0) t t3 t2 ch kp tp wt)] (QI g (fun r (_ : Unit) => r = R_terr d w) (fun _ => [bO t 4 (tF (lad 0) ad (d 0) (d 9) (d 5) (d 6) (d 7) (d 1) (d 8)), bI g (ad 1) 10 (col d 0), bI g (ad 2) 10 (col d 1), bI g (ad 3) 10 (col d 2), bI g (ad 4) 10 (col d 3), bI g (ad 5) 10 (col d 4), bI g (ad 6) 3 (rulF d), bI g (ad 7) 3 cn, bO o 6 (cF (lad 0) t t3 t2 ch kp tp wt)])) := by
  refine Ct.of (by decide) rfl ?_
  intro p e s m args below meth c A H locs ls Qf cf hr hlk hnm hQ hw hl
  have hx := cf.1
  have hb := cf.2.1
  have hml := cf.2.2.1
  have hown := cf.2.2.2.1
  have hts := cf.2.2.2.2
  have hw : WD g A s H locs [bO t 4 (tF (lad 0) ad (d 0) (d 9) (d 5) (d 6) (d 7) (d 1) (d 8)), bI g (ad 1) 10 (col d 0), bI g (ad 2) 10 (col d 1), bI g (ad 3) 10 (col d 2), bI g (ad 4) 10 (col d 3), bI g (ad 5) 10 (col d 4), bI g (ad 6) 3 (rulF d), bI g (ad 7) 3 cn, bO o 6 (cF (lad 0) t t3 t2 ch kp tp wt)] := hw
  have hl : lv_has ls 2 [(0, .ref o), (1, .int w)] := hl
  refine lv_iload_n hx hb dX6_terrace_0 rfl (lv_at hl 1 rfl) ?_
  refine lv_if_lt (tgt := 10) hx hb dX6_terrace_1 (by decide) (fun c1 => ?_) (fun c1 => ?_)
  · refine lv_ldc hx hb hown (hts _ q356) dX6_terrace_10 ?_
    exact s_iret cf hr hlk () hw (terr_bad (by grind)) (Nat.le_of_ble_eq_true rfl) (Nat.le_of_ble_eq_true rfl) dX6_terrace_12 hQ
  · refine lv_iload_n hx hb dX6_terrace_4 rfl (lv_at hl 1 rfl) ?_
    refine lv_bipush (v := 6) hx hb dX6_terrace_5 (by decide) ?_
    refine lv_icmp_le (tgt := 13) hx hb dX6_terrace_7 (by decide) (fun c7 => ?_) (fun c7 => ?_)
    · refine lv_iload_n hx hb dX6_terrace_13 rfl (lv_at hl 1 rfl) ?_
      refine lv_bipush (v := 6) hx hb dX6_terrace_14 (by decide) ?_
      refine lv_icmp_ne (tgt := 27) hx hb dX6_terrace_16 (by decide) (fun c16 => ?_) (fun c16 => ?_)
      · refine lv_iload_n hx hb dX6_terrace_27 rfl (lv_at hl 1 rfl) ?_
        refine lv_iconst (v := 5) hx hb dX6_terrace_28 (by decide) ?_
        refine lv_icmp_ne (tgt := 49) hx hb dX6_terrace_29 (by decide) (fun c29 => ?_) (fun c29 => ?_)
        · refine lv_aload_n hx hb dX6_terrace_49 rfl (lv_at hl 0 rfl) ?_
          refine s_get (v := .ref t) fb6 cf hw 8 rfl 1 rfl q307 rfl dX6_terrace_50 ?_
          refine lv_iload_n hx hb dX6_terrace_53 rfl (lv_at hl 1 rfl) ?_
          refine s_calli (runVN cf (x_reading (t := t) (lad := lad) (ad := ad) (d := d) (cn := cn) (n := n) hn hn10 w) hw [0, 4] (by decide) rfl km_X4_reading ki_X4_reading q527 (run_recv (ci := 4) (T := TX4) (N := 15) hw 0 rfl rfl) rfl rfl hl.1 rfl dX6_terrace_54) hw [0, 4] (by decide) rfl (fun _ => rfl) (fun r_3 u_1 H locs hp_2 hw => ?_)
          have hw : WD g A s H locs [bO t 4 (tF (lad 0) ad (d 0) (d 9) (d 5) (d 6) (d 7) (d 1) (d 8)), bI g (ad 1) 10 (col d 0), bI g (ad 2) 10 (col d 1), bI g (ad 3) 10 (col d 2), bI g (ad 4) 10 (col d 3), bI g (ad 5) 10 (col d 4), bI g (ad 6) 3 (rulF d), bI g (ad 7) 3 cn, bO o 6 (cF (lad 0) t t3 t2 ch kp tp wt)] := hw
          subst hp_2
          exact s_iret cf hr hlk () hw (terr_read c29 c16) (Nat.le_of_ble_eq_true rfl) (Nat.le_of_ble_eq_true rfl) dX6_terrace_57 hQ
        · refine lv_aload_n hx hb dX6_terrace_32 rfl (lv_at hl 0 rfl) ?_
          refine s_get (v := .ref t) fb6 cf hw 8 rfl 1 rfl q307 rfl dX6_terrace_33 ?_
          refine lv_aload_n hx hb dX6_terrace_36 rfl (lv_at hl 0 rfl) ?_
          refine s_get (v := .ref t) fb6 cf hw 8 rfl 1 rfl q307 rfl dX6_terrace_37 ?_
          refine s_getN (v := .ref (ad 2)) fb4 cf hw 0 rfl 2 rfl q160 rfl dX6_terrace_40 ?_
          refine s_calli (runVN cf (x_total (t := t) (lad := lad) (ad := ad) (d := d) (cn := cn) (n := n) hn hn10 (x := ad 2) (f := col d 1)) hw [0, 2] (by decide) rfl km_X4_total ki_X4_total q523 (run_recv (ci := 4) (T := TX4) (N := 15) hw 0 rfl rfl) rfl rfl hl.1 rfl dX6_terrace_43) hw [0, 2] (by decide) rfl (fun _ => rfl) (fun r_6 u_4 H locs hp_5 hw => ?_)
          have hw : WD g A s H locs [bO t 4 (tF (lad 0) ad (d 0) (d 9) (d 5) (d 6) (d 7) (d 1) (d 8)), bI g (ad 1) 10 (col d 0), bI g (ad 2) 10 (col d 1), bI g (ad 3) 10 (col d 2), bI g (ad 4) 10 (col d 3), bI g (ad 5) 10 (col d 4), bI g (ad 6) 3 (rulF d), bI g (ad 7) 3 cn, bO o 6 (cF (lad 0) t t3 t2 ch kp tp wt)] := hw
          subst hp_5
          refine lv_goto (tgt := 57) hx hb dX6_terrace_46 (by decide) ?_
          exact s_iret cf hr hlk () hw (by rw [c29]; show _ = sumF 1 d; unfold sumF; rw [nH_of hn hn10]; rfl) (Nat.le_of_ble_eq_true rfl) (Nat.le_of_ble_eq_true rfl) dX6_terrace_57 hQ
      · refine lv_aload_n hx hb dX6_terrace_19 rfl (lv_at hl 0 rfl) ?_
        refine s_get (v := .ref t) fb6 cf hw 8 rfl 1 rfl q307 rfl dX6_terrace_20 ?_
        refine s_calli (runVN cf (x_loudest (t := t) (lad := lad) (ad := ad) (d := d) (cn := cn) (n := n) hn hn10 hI) hw [0, 5] (by decide) rfl km_X4_loudest ki_X4_loudest q519 (run_recv (ci := 4) (T := TX4) (N := 15) hw 0 rfl rfl) rfl rfl hl.1 rfl dX6_terrace_23) hw [0, 5] (by decide) rfl (fun _ => rfl) (fun r_9 u_7 H locs hp_8 hw => ?_)
        have hw : WD g A s H locs [bO t 4 (tF (lad 0) ad (d 0) (d 9) (d 5) (d 6) (d 7) (d 1) (d 8)), bI g (ad 1) 10 (col d 0), bI g (ad 2) 10 (col d 1), bI g (ad 3) 10 (col d 2), bI g (ad 4) 10 (col d 3), bI g (ad 5) 10 (col d 4), bI g (ad 6) 3 (rulF d), bI g (ad 7) 3 cn, bO o 6 (cF (lad 0) t t3 t2 ch kp tp wt)] := hw
        subst hp_8
        exact s_iret cf hr hlk () hw (by rw [c16]; rfl) (Nat.le_of_ble_eq_true rfl) (Nat.le_of_ble_eq_true rfl) dX6_terrace_26 hQ
    · refine lv_ldc hx hb hown (hts _ q356) dX6_terrace_10 ?_
      exact s_iret cf hr hlk () hw (terr_bad (by grind)) (Nat.le_of_ble_eq_true rfl) (Nat.le_of_ble_eq_true rfl) dX6_terrace_12 hQ
set_option maxRecDepth 100000 in
set_option maxHeartbeats 4000000 in
theorem c_keep {l : Launch} {g : GG} {t : Nat} {lad ad : Nat → Nat} {d cn : DD} {o t2 t3 : Nat} {ch : Nat → Nat} {kp tp wt : Int32} {ad3 : Nat → Nat} {d3 cn3 : DD} : Ct l g yX6_keep cX6_keep 1 (Option.some Jvm.ClassFile.FieldType.int) 2 0 0 [.ref o] [bO t 4 (tF (lad 0) ad (d 0) (d 9) (d 5) (d 6) (d 7) (d 1) (d 8)), bI g (ad 1) 10 (col d 0), bI g (ad 2) 10 (col d 1), bI g (ad 3) 10 (col d 2), bI g (ad 4) 10 (col d 3), bI g (ad 5) 10 (col d 4), bI g (ad 6) 3 (rulF d), bI g (ad 7) 3 cn, bO t3 4 (tF (lad 0) ad3 (d3 0) (d3 9) (d3 5) (d3 6) (d3 7) (d3 1) (d3 8)), bI g (ad3 1) 10 (col d3 0), bI g (ad3 2) 10 (col d3 1), bI g (ad3 3) 10 (col d3 2), bI g (ad3 4) 10 (col d3 3), bI g (ad3 5) 10 (col d3 4), bI g (ad3 6) 3 (rulF d3), bI g (ad3 7) 3 cn3, bO o 6 (cF (lad 0) t t3 t2 ch kp tp wt)] (QI g (fun r (_ : Unit) => r = d 0) (fun _ => [bO t 4 (tF (lad 0) ad (d 0) (d 9) (d 5) (d 6) (d 7) (d 1) (d 8)), bI g (ad 1) 10 (col d 0), bI g (ad 2) 10 (col d 1), bI g (ad 3) 10 (col d 2), bI g (ad 4) 10 (col d 3), bI g (ad 5) 10 (col d 4), bI g (ad 6) 3 (rulF d), bI g (ad 7) 3 cn, bO t3 4 (tF (lad 0) ad3 (d 0) (d 9) (d 5) (d 6) (d 7) (d 1) (d 8)), bI g (ad3 1) 10 (col d 0), bI g (ad3 2) 10 (col d 1), bI g (ad3 3) 10 (col d 2), bI g (ad3 4) 10 (col d 3), bI g (ad3 5) 10 (col d 4), bI g (ad3 6) 3 (rulF d), bI g (ad3 7) 3 cn, bO o 6 (cF (lad 0) t t3 t2 ch 1 tp wt)])) := by
  refine Ct.of (by decide) rfl ?_
  intro p e s m args below meth c A H locs ls Qf cf hr hlk hnm hQ hw hl
  have hx := cf.1
  have hb := cf.2.1
  have hml := cf.2.2.1
  have hown := cf.2.2.2.1
  have hts := cf.2.2.2.2
  have hw : WD g A s H locs [bO t 4 (tF (lad 0) ad (d 0) (d 9) (d 5) (d 6) (d 7) (d 1) (d 8)), bI g (ad 1) 10 (col d 0), bI g (ad 2) 10 (col d 1), bI g (ad 3) 10 (col d 2), bI g (ad 4) 10 (col d 3), bI g (ad 5) 10 (col d 4), bI g (ad 6) 3 (rulF d), bI g (ad 7) 3 cn, bO t3 4 (tF (lad 0) ad3 (d3 0) (d3 9) (d3 5) (d3 6) (d3 7) (d3 1) (d3 8)), bI g (ad3 1) 10 (col d3 0), bI g (ad3 2) 10 (col d3 1), bI g (ad3 3) 10 (col d3 2), bI g (ad3 4) 10 (col d3 3), bI g (ad3 5) 10 (col d3 4), bI g (ad3 6) 3 (rulF d3), bI g (ad3 7) 3 cn3, bO o 6 (cF (lad 0) t t3 t2 ch kp tp wt)] := hw
  have hl : lv_has ls 1 [(0, .ref o)] := hl
  refine lv_aload_n hx hb dX6_keep_0 rfl (lv_at hl 0 rfl) ?_
  refine s_get (v := .ref t3) fb6 cf hw 16 rfl 2 rfl q308 rfl dX6_keep_1 ?_
  refine lv_aload_n hx hb dX6_keep_4 rfl (lv_at hl 0 rfl) ?_
  refine s_get (v := .ref t) fb6 cf hw 16 rfl 1 rfl q307 rfl dX6_keep_5 ?_
  refine s_callv (runVN cf (x_become (t := t3) (lad := lad) (ad := ad3) (d := d3) (cn := cn3) (t2 := t) (ad2 := ad) (d2 := d) (cn2 := cn)) hw [8, 9, 10, 11, 12, 13, 14, 15, 0, 1, 2, 3, 4, 5, 6, 7] (by decide) rfl km_X4_become ki_X4_become q541 (run_recv (ci := 4) (T := TX4) (N := 15) hw 8 rfl rfl) rfl rfl hl.1 rfl dX6_keep_8) hw [8, 9, 10, 11, 12, 13, 14, 15, 0, 1, 2, 3, 4, 5, 6, 7] (by decide) rfl (fun _ => rfl) (fun u_1 H locs hp_2 hw => ?_)
  have hw : WD g A s H locs [bO t 4 (tF (lad 0) ad (d 0) (d 9) (d 5) (d 6) (d 7) (d 1) (d 8)), bI g (ad 1) 10 (col d 0), bI g (ad 2) 10 (col d 1), bI g (ad 3) 10 (col d 2), bI g (ad 4) 10 (col d 3), bI g (ad 5) 10 (col d 4), bI g (ad 6) 3 (rulF d), bI g (ad 7) 3 cn, bO t3 4 (tF (lad 0) ad3 (d 0) (d 9) (d 5) (d 6) (d 7) (d 1) (d 8)), bI g (ad3 1) 10 (col d 0), bI g (ad3 2) 10 (col d 1), bI g (ad3 3) 10 (col d 2), bI g (ad3 4) 10 (col d 3), bI g (ad3 5) 10 (col d 4), bI g (ad3 6) 3 (rulF d), bI g (ad3 7) 3 cn, bO o 6 (cF (lad 0) t t3 t2 ch kp tp wt)] := hw
  refine lv_aload_n hx hb dX6_keep_11 rfl (lv_at hl 0 rfl) ?_
  refine lv_iconst (v := 1) hx hb dX6_keep_12 (by decide) ?_
  refine s_put (v := .int 1) fb6 cf hw 16 rfl 4 rfl q310 rfl rfl rfl rfl dX6_keep_13 (fun H locs hw => ?_)
  have hw : WD g A s H locs [bO t 4 (tF (lad 0) ad (d 0) (d 9) (d 5) (d 6) (d 7) (d 1) (d 8)), bI g (ad 1) 10 (col d 0), bI g (ad 2) 10 (col d 1), bI g (ad 3) 10 (col d 2), bI g (ad 4) 10 (col d 3), bI g (ad 5) 10 (col d 4), bI g (ad 6) 3 (rulF d), bI g (ad 7) 3 cn, bO t3 4 (tF (lad 0) ad3 (d 0) (d 9) (d 5) (d 6) (d 7) (d 1) (d 8)), bI g (ad3 1) 10 (col d 0), bI g (ad3 2) 10 (col d 1), bI g (ad3 3) 10 (col d 2), bI g (ad3 4) 10 (col d 3), bI g (ad3 5) 10 (col d 4), bI g (ad3 6) 3 (rulF d), bI g (ad3 7) 3 cn, bO o 6 (cF (lad 0) t t3 t2 ch 1 tp wt)] := hw
  refine lv_aload_n hx hb dX6_keep_16 rfl (lv_at hl 0 rfl) ?_
  refine s_get (v := .ref t3) fb6 cf hw 16 rfl 2 rfl q308 rfl dX6_keep_17 ?_
  refine s_getN (v := .int (d 0)) fb4 cf hw 8 rfl 8 rfl q174 rfl dX6_keep_20 ?_
  exact s_iret cf hr hlk () hw rfl (Nat.le_of_ble_eq_true rfl) (Nat.le_of_ble_eq_true rfl) dX6_keep_23 hQ
set_option maxRecDepth 100000 in
set_option maxHeartbeats 4000000 in
theorem c_back {l : Launch} {g : GG} {t : Nat} {lad ad : Nat → Nat} {d cn : DD} {o t2 t3 : Nat} {ch : Nat → Nat} {kp tp wt : Int32} {ad3 : Nat → Nat} {d3 cn3 : DD} : Ct l g yX6_back cX6_back 1 (Option.some Jvm.ClassFile.FieldType.int) 2 0 0 [.ref o] [bO t 4 (tF (lad 0) ad (d 0) (d 9) (d 5) (d 6) (d 7) (d 1) (d 8)), bI g (ad 1) 10 (col d 0), bI g (ad 2) 10 (col d 1), bI g (ad 3) 10 (col d 2), bI g (ad 4) 10 (col d 3), bI g (ad 5) 10 (col d 4), bI g (ad 6) 3 (rulF d), bI g (ad 7) 3 cn, bO t3 4 (tF (lad 0) ad3 (d3 0) (d3 9) (d3 5) (d3 6) (d3 7) (d3 1) (d3 8)), bI g (ad3 1) 10 (col d3 0), bI g (ad3 2) 10 (col d3 1), bI g (ad3 3) 10 (col d3 2), bI g (ad3 4) 10 (col d3 3), bI g (ad3 5) 10 (col d3 4), bI g (ad3 6) 3 (rulF d3), bI g (ad3 7) 3 cn3, bO o 6 (cF (lad 0) t t3 t2 ch kp tp wt)] (QI g (fun r (_ : Unit) => r = if kp = 0 then -1000000002 else d3 0) (fun _ => [bO t 4 (tF (lad 0) ad ((if kp = 0 then d else d3) 0) ((if kp = 0 then d else d3) 9) ((if kp = 0 then d else d3) 5) ((if kp = 0 then d else d3) 6) ((if kp = 0 then d else d3) 7) ((if kp = 0 then d else d3) 1) ((if kp = 0 then d else d3) 8)), bI g (ad 1) 10 (col (if kp = 0 then d else d3) 0), bI g (ad 2) 10 (col (if kp = 0 then d else d3) 1), bI g (ad 3) 10 (col (if kp = 0 then d else d3) 2), bI g (ad 4) 10 (col (if kp = 0 then d else d3) 3), bI g (ad 5) 10 (col (if kp = 0 then d else d3) 4), bI g (ad 6) 3 (rulF (if kp = 0 then d else d3)), bI g (ad 7) 3 (if kp = 0 then cn else cn3), bO t3 4 (tF (lad 0) ad3 (d3 0) (d3 9) (d3 5) (d3 6) (d3 7) (d3 1) (d3 8)), bI g (ad3 1) 10 (col d3 0), bI g (ad3 2) 10 (col d3 1), bI g (ad3 3) 10 (col d3 2), bI g (ad3 4) 10 (col d3 3), bI g (ad3 5) 10 (col d3 4), bI g (ad3 6) 3 (rulF d3), bI g (ad3 7) 3 cn3, bO o 6 (cF (lad 0) t t3 t2 ch kp tp wt)])) := by
  refine Ct.of (by decide) rfl ?_
  intro p e s m args below meth c A H locs ls Qf cf hr hlk hnm hQ hw hl
  have hx := cf.1
  have hb := cf.2.1
  have hml := cf.2.2.1
  have hown := cf.2.2.2.1
  have hts := cf.2.2.2.2
  have hw : WD g A s H locs [bO t 4 (tF (lad 0) ad (d 0) (d 9) (d 5) (d 6) (d 7) (d 1) (d 8)), bI g (ad 1) 10 (col d 0), bI g (ad 2) 10 (col d 1), bI g (ad 3) 10 (col d 2), bI g (ad 4) 10 (col d 3), bI g (ad 5) 10 (col d 4), bI g (ad 6) 3 (rulF d), bI g (ad 7) 3 cn, bO t3 4 (tF (lad 0) ad3 (d3 0) (d3 9) (d3 5) (d3 6) (d3 7) (d3 1) (d3 8)), bI g (ad3 1) 10 (col d3 0), bI g (ad3 2) 10 (col d3 1), bI g (ad3 3) 10 (col d3 2), bI g (ad3 4) 10 (col d3 3), bI g (ad3 5) 10 (col d3 4), bI g (ad3 6) 3 (rulF d3), bI g (ad3 7) 3 cn3, bO o 6 (cF (lad 0) t t3 t2 ch kp tp wt)] := hw
  have hl : lv_has ls 1 [(0, .ref o)] := hl
  refine lv_aload_n hx hb dX6_back_0 rfl (lv_at hl 0 rfl) ?_
  refine s_get (v := .int kp) fb6 cf hw 16 rfl 4 rfl q310 rfl dX6_back_1 ?_
  refine lv_if_ne (tgt := 11) hx hb dX6_back_4 (by decide) (fun c4 => ?_) (fun c4 => ?_)
  · refine lv_aload_n hx hb dX6_back_11 rfl (lv_at hl 0 rfl) ?_
    refine s_get (v := .ref t) fb6 cf hw 16 rfl 1 rfl q307 rfl dX6_back_12 ?_
    refine lv_aload_n hx hb dX6_back_15 rfl (lv_at hl 0 rfl) ?_
    refine s_get (v := .ref t3) fb6 cf hw 16 rfl 2 rfl q308 rfl dX6_back_16 ?_
    refine s_callv (runVN cf (x_become (t := t) (lad := lad) (ad := ad) (d := d) (cn := cn) (t2 := t3) (ad2 := ad3) (d2 := d3) (cn2 := cn3)) hw [0, 1, 2, 3, 4, 5, 6, 7, 8, 9, 10, 11, 12, 13, 14, 15] (by decide) rfl km_X4_become ki_X4_become q541 (run_recv (ci := 4) (T := TX4) (N := 15) hw 0 rfl rfl) rfl rfl hl.1 rfl dX6_back_19) hw [0, 1, 2, 3, 4, 5, 6, 7, 8, 9, 10, 11, 12, 13, 14, 15] (by decide) rfl (fun _ => rfl) (fun u_1 H locs hp_2 hw => ?_)
    have hw : WD g A s H locs [bO t 4 (tF (lad 0) ad (d3 0) (d3 9) (d3 5) (d3 6) (d3 7) (d3 1) (d3 8)), bI g (ad 1) 10 (col d3 0), bI g (ad 2) 10 (col d3 1), bI g (ad 3) 10 (col d3 2), bI g (ad 4) 10 (col d3 3), bI g (ad 5) 10 (col d3 4), bI g (ad 6) 3 (rulF d3), bI g (ad 7) 3 cn3, bO t3 4 (tF (lad 0) ad3 (d3 0) (d3 9) (d3 5) (d3 6) (d3 7) (d3 1) (d3 8)), bI g (ad3 1) 10 (col d3 0), bI g (ad3 2) 10 (col d3 1), bI g (ad3 3) 10 (col d3 2), bI g (ad3 4) 10 (col d3 3), bI g (ad3 5) 10 (col d3 4), bI g (ad3 6) 3 (rulF d3), bI g (ad3 7) 3 cn3, bO o 6 (cF (lad 0) t t3 t2 ch kp tp wt)] := hw
    refine lv_aload_n hx hb dX6_back_22 rfl (lv_at hl 0 rfl) ?_
    refine s_get (v := .ref t) fb6 cf hw 16 rfl 1 rfl q307 rfl dX6_back_23 ?_
    refine s_getN (v := .int (d3 0)) fb4 cf hw 0 rfl 8 rfl q174 rfl dX6_back_26 ?_
    exact s_iret cf hr hlk () (by rw [if_neg c4, if_neg c4]; exact hw) (by rw [if_neg c4]) (Nat.le_of_ble_eq_true rfl) (Nat.le_of_ble_eq_true rfl) dX6_back_29 hQ
  · refine lv_ldcw hx hb hown (hts _ q894) dX6_back_7 ?_
    exact s_iret cf hr hlk () (by rw [if_pos c4, if_pos c4]; exact hw) (by rw [if_pos c4]) (Nat.le_of_ble_eq_true rfl) (Nat.le_of_ble_eq_true rfl) dX6_back_10 hQ
set_option maxRecDepth 100000 in
set_option maxHeartbeats 4000000 in
theorem c_tell {l : Launch} {g : GG} {t : Nat} {lad : Nat → Nat} {o t2 t3 : Nat} {ch : Nat → Nat} {kp tp : Int32} {wf : DD} {wn : Nat} (hwn : wn ≤ 60) (v : Int32) : Ct l g yX6_tell cX6_tell 2 (Option.some Jvm.ClassFile.FieldType.int) 0 0 0 [.ref o, .int v] [bI g (ch 10) 60 wf, bO o 6 (cF (lad 0) t t3 t2 ch kp tp (nI wn))] (QI g (fun r (_ : Unit) => r = if nI wn < 60 then nI wn + 1 else -1000000003) (fun _ => [bI g (ch 10) 60 (if nI wn < 60 then upd wf wn v else wf), bO o 6 (cF (lad 0) t t3 t2 ch kp tp (if nI wn < 60 then nI wn + 1 else nI wn))])) := by
  refine Ct.of (by decide) rfl ?_
  intro p e s m args below meth c A H locs ls Qf cf hr hlk hnm hQ hw hl
  have hx := cf.1
  have hb := cf.2.1
  have hml := cf.2.2.1
  have hown := cf.2.2.2.1
  have hts := cf.2.2.2.2
  have hw : WD g A s H locs [bI g (ch 10) 60 wf, bO o 6 (cF (lad 0) t t3 t2 ch kp tp (nI wn))] := hw
  have hl : lv_has ls 2 [(0, .ref o), (1, .int v)] := hl
  refine lv_aload_n hx hb dX6_tell_0 rfl (lv_at hl 0 rfl) ?_
  refine s_get (v := .int (nI wn)) fb6 cf hw 1 rfl 11 rfl q317 rfl dX6_tell_1 ?_
  refine lv_bipush (v := 60) hx hb dX6_tell_4 (by decide) ?_
  refine lv_icmp_lt (tgt := 12) hx hb dX6_tell_6 (by decide) (fun c6 => ?_) (fun c6 => ?_)
  · have hlt : wn < 60 := by rw [show (60 : Int32) = nI 60 from rfl, nI_ltI (by omega) (by omega)] at c6; exact c6
    refine lv_aload_n hx hb dX6_tell_12 rfl (lv_at hl 0 rfl) ?_
    refine s_get (v := .ref (ch 10)) fb6 cf hw 1 rfl 10 rfl q316 rfl dX6_tell_13 ?_
    refine lv_aload_n hx hb dX6_tell_16 rfl (lv_at hl 0 rfl) ?_
    refine s_get (v := .int (nI wn)) fb6 cf hw 1 rfl 11 rfl q317 rfl dX6_tell_17 ?_
    refine lv_iload_n hx hb dX6_tell_20 rfl (lv_at hl 1 rfl) ?_
    refine s_iast (j := wn) cf hw 0 rfl (rfl) (by omega) rfl dX6_tell_21 (fun H locs hw => ?_)
    have hw : WD g A s H locs [bI g (ch 10) 60 (upd wf wn v), bO o 6 (cF (lad 0) t t3 t2 ch kp tp (nI wn))] := hw
    refine lv_aload_n hx hb dX6_tell_22 rfl (lv_at hl 0 rfl) ?_
    refine lv_dup hx hb dX6_tell_23 rfl ?_
    refine s_get (v := .int (nI wn)) fb6 cf hw 1 rfl 11 rfl q317 rfl dX6_tell_24 ?_
    refine lv_iconst (v := 1) hx hb dX6_tell_27 (by decide) ?_
    refine lv_iadd hx hb dX6_tell_28 ?_
    refine s_put (v := .int ((nI wn) + 1)) fb6 cf hw 1 rfl 11 rfl q317 rfl rfl rfl rfl dX6_tell_29 (fun H locs hw => ?_)
    have hw : WD g A s H locs [bI g (ch 10) 60 (upd wf wn v), bO o 6 (cF (lad 0) t t3 t2 ch kp tp ((nI wn) + 1))] := hw
    refine lv_aload_n hx hb dX6_tell_32 rfl (lv_at hl 0 rfl) ?_
    refine s_get (v := .int ((nI wn) + 1)) fb6 cf hw 1 rfl 11 rfl q317 rfl dX6_tell_33 ?_
    exact s_iret cf hr hlk () (by rw [if_pos c6, if_pos c6]; exact hw) (by rw [if_pos c6]) (Nat.le_of_ble_eq_true rfl) (Nat.le_of_ble_eq_true rfl) dX6_tell_36 hQ
  · refine lv_ldc hx hb hown (hts _ q362) dX6_tell_9 ?_
    exact s_iret cf hr hlk () (by rw [if_neg c6, if_neg c6]; exact hw) (by rw [if_neg c6]) (Nat.le_of_ble_eq_true rfl) (Nat.le_of_ble_eq_true rfl) dX6_tell_11 hQ
set_option maxRecDepth 100000 in
set_option maxHeartbeats 4000000 in
theorem c_count {l : Launch} {g : GG} {t : Nat} {lad ad : Nat → Nat} {d cn : DD} {o t2 t3 : Nat} {ch : Nat → Nat} {kp tp wt : Int32} (w : Int32) : Ct l g yX6_count cX6_count 2 (Option.some Jvm.ClassFile.FieldType.int) 0 0 0 [.ref o, .int w] [bO t 4 (tF (lad 0) ad (d 0) (d 9) (d 5) (d 6) (d 7) (d 1) (d 8)), bI g (ad 1) 10 (col d 0), bI g (ad 2) 10 (col d 1), bI g (ad 3) 10 (col d 2), bI g (ad 4) 10 (col d 3), bI g (ad 5) 10 (col d 4), bI g (ad 6) 3 (rulF d), bI g (ad 7) 3 cn, bO o 6 (cF (lad 0) t t3 t2 ch kp tp wt)] (QI g (fun r (_ : Unit) => r = R_count d wt tp w) (fun _ => [bO t 4 (tF (lad 0) ad (d 0) (d 9) (d 5) (d 6) (d 7) (d 1) (d 8)), bI g (ad 1) 10 (col d 0), bI g (ad 2) 10 (col d 1), bI g (ad 3) 10 (col d 2), bI g (ad 4) 10 (col d 3), bI g (ad 5) 10 (col d 4), bI g (ad 6) 3 (rulF d), bI g (ad 7) 3 cn, bO o 6 (cF (lad 0) t t3 t2 ch kp tp wt)])) := by
  refine Ct.of (by decide) rfl ?_
  intro p e s m args below meth c A H locs ls Qf cf hr hlk hnm hQ hw hl
  have hx := cf.1
  have hb := cf.2.1
  have hml := cf.2.2.1
  have hown := cf.2.2.2.1
  have hts := cf.2.2.2.2
  have hw : WD g A s H locs [bO t 4 (tF (lad 0) ad (d 0) (d 9) (d 5) (d 6) (d 7) (d 1) (d 8)), bI g (ad 1) 10 (col d 0), bI g (ad 2) 10 (col d 1), bI g (ad 3) 10 (col d 2), bI g (ad 4) 10 (col d 3), bI g (ad 5) 10 (col d 4), bI g (ad 6) 3 (rulF d), bI g (ad 7) 3 cn, bO o 6 (cF (lad 0) t t3 t2 ch kp tp wt)] := hw
  have hl : lv_has ls 2 [(0, .ref o), (1, .int w)] := hl
  refine lv_iload_n hx hb dX6_count_0 rfl (lv_at hl 1 rfl) ?_
  by_cases t1_0 : w = 0
  · refine lv_tableIn (tgt := 52) (off := 51) hx hb dX6_count_1 (by rw [t1_0]; decide) (by rw [t1_0]; decide) (by rw [t1_0]; decide) (by decide) ?_
    refine lv_aload_n hx hb dX6_count_52 rfl (lv_at hl 0 rfl) ?_
    refine s_get (v := .ref t) fb6 cf hw 8 rfl 1 rfl q307 rfl dX6_count_53 ?_
    refine s_getN (v := .int (d 0)) fb4 cf hw 0 rfl 8 rfl q174 rfl dX6_count_56 ?_
    exact s_iret cf hr hlk () hw (by unfold R_count; rw [if_pos t1_0]) (Nat.le_of_ble_eq_true rfl) (Nat.le_of_ble_eq_true rfl) dX6_count_59 hQ
  by_cases t1_1 : w = 1
  · refine lv_tableIn (tgt := 60) (off := 59) hx hb dX6_count_1 (by rw [t1_1]; decide) (by rw [t1_1]; decide) (by rw [t1_1]; decide) (by decide) ?_
    refine lv_aload_n hx hb dX6_count_60 rfl (lv_at hl 0 rfl) ?_
    refine s_get (v := .ref t) fb6 cf hw 8 rfl 1 rfl q307 rfl dX6_count_61 ?_
    refine s_getN (v := .int (d 1)) fb4 cf hw 0 rfl 13 rfl q183 rfl dX6_count_64 ?_
    exact s_iret cf hr hlk () hw (by unfold R_count; rw [if_neg t1_0, if_pos t1_1]) (Nat.le_of_ble_eq_true rfl) (Nat.le_of_ble_eq_true rfl) dX6_count_67 hQ
  by_cases t1_2 : w = 2
  · refine lv_tableIn (tgt := 68) (off := 67) hx hb dX6_count_1 (by rw [t1_2]; decide) (by rw [t1_2]; decide) (by rw [t1_2]; decide) (by decide) ?_
    refine lv_aload_n hx hb dX6_count_68 rfl (lv_at hl 0 rfl) ?_
    refine s_get (v := .ref t) fb6 cf hw 8 rfl 1 rfl q307 rfl dX6_count_69 ?_
    refine s_getN (v := .ref (ad 6)) fb4 cf hw 0 rfl 6 rfl q170 rfl dX6_count_72 ?_
    refine lv_iconst (v := 0) hx hb dX6_count_75 (by decide) ?_
    refine s_iald (j := 0) cf hw 6 rfl (rfl) (by decide) rfl dX6_count_76 ?_
    refine lv_topr (y := d 2) (rfl) ?_
    exact s_iret cf hr hlk () hw (by unfold R_count; rw [if_neg t1_0, if_neg t1_1, if_pos t1_2]) (Nat.le_of_ble_eq_true rfl) (Nat.le_of_ble_eq_true rfl) dX6_count_77 hQ
  by_cases t1_3 : w = 3
  · refine lv_tableIn (tgt := 78) (off := 77) hx hb dX6_count_1 (by rw [t1_3]; decide) (by rw [t1_3]; decide) (by rw [t1_3]; decide) (by decide) ?_
    refine lv_aload_n hx hb dX6_count_78 rfl (lv_at hl 0 rfl) ?_
    refine s_get (v := .ref t) fb6 cf hw 8 rfl 1 rfl q307 rfl dX6_count_79 ?_
    refine s_getN (v := .ref (ad 6)) fb4 cf hw 0 rfl 6 rfl q170 rfl dX6_count_82 ?_
    refine lv_iconst (v := 1) hx hb dX6_count_85 (by decide) ?_
    refine s_iald (j := 1) cf hw 6 rfl (rfl) (by decide) rfl dX6_count_86 ?_
    refine lv_topr (y := d 3) (rfl) ?_
    exact s_iret cf hr hlk () hw (by unfold R_count; rw [if_neg t1_0, if_neg t1_1, if_neg t1_2, if_pos t1_3]) (Nat.le_of_ble_eq_true rfl) (Nat.le_of_ble_eq_true rfl) dX6_count_87 hQ
  by_cases t1_4 : w = 4
  · refine lv_tableIn (tgt := 88) (off := 87) hx hb dX6_count_1 (by rw [t1_4]; decide) (by rw [t1_4]; decide) (by rw [t1_4]; decide) (by decide) ?_
    refine lv_aload_n hx hb dX6_count_88 rfl (lv_at hl 0 rfl) ?_
    refine s_get (v := .ref t) fb6 cf hw 8 rfl 1 rfl q307 rfl dX6_count_89 ?_
    refine s_getN (v := .ref (ad 6)) fb4 cf hw 0 rfl 6 rfl q170 rfl dX6_count_92 ?_
    refine lv_iconst (v := 2) hx hb dX6_count_95 (by decide) ?_
    refine s_iald (j := 2) cf hw 6 rfl (rfl) (by decide) rfl dX6_count_96 ?_
    refine lv_topr (y := d 4) (rfl) ?_
    exact s_iret cf hr hlk () hw (by unfold R_count; rw [if_neg t1_0, if_neg t1_1, if_neg t1_2, if_neg t1_3, if_pos t1_4]) (Nat.le_of_ble_eq_true rfl) (Nat.le_of_ble_eq_true rfl) dX6_count_97 hQ
  by_cases t1_5 : w = 5
  · refine lv_tableIn (tgt := 98) (off := 97) hx hb dX6_count_1 (by rw [t1_5]; decide) (by rw [t1_5]; decide) (by rw [t1_5]; decide) (by decide) ?_
    refine lv_aload_n hx hb dX6_count_98 rfl (lv_at hl 0 rfl) ?_
    refine s_get (v := .ref t) fb6 cf hw 8 rfl 1 rfl q307 rfl dX6_count_99 ?_
    refine s_getN (v := .int (d 9)) fb4 cf hw 0 rfl 9 rfl q176 rfl dX6_count_102 ?_
    exact s_iret cf hr hlk () hw (by unfold R_count; rw [if_neg t1_0, if_neg t1_1, if_neg t1_2, if_neg t1_3, if_neg t1_4, if_pos t1_5]) (Nat.le_of_ble_eq_true rfl) (Nat.le_of_ble_eq_true rfl) dX6_count_105 hQ
  by_cases t1_6 : w = 6
  · refine lv_tableIn (tgt := 106) (off := 105) hx hb dX6_count_1 (by rw [t1_6]; decide) (by rw [t1_6]; decide) (by rw [t1_6]; decide) (by decide) ?_
    refine lv_aload_n hx hb dX6_count_106 rfl (lv_at hl 0 rfl) ?_
    refine s_get (v := .int wt) fb6 cf hw 8 rfl 11 rfl q317 rfl dX6_count_107 ?_
    exact s_iret cf hr hlk () hw (by unfold R_count; rw [if_neg t1_0, if_neg t1_1, if_neg t1_2, if_neg t1_3, if_neg t1_4, if_neg t1_5, if_pos t1_6]) (Nat.le_of_ble_eq_true rfl) (Nat.le_of_ble_eq_true rfl) dX6_count_110 hQ
  by_cases t1_7 : w = 7
  · refine lv_tableIn (tgt := 111) (off := 110) hx hb dX6_count_1 (by rw [t1_7]; decide) (by rw [t1_7]; decide) (by rw [t1_7]; decide) (by decide) ?_
    refine lv_aload_n hx hb dX6_count_111 rfl (lv_at hl 0 rfl) ?_
    refine s_get (v := .int tp) fb6 cf hw 8 rfl 7 rfl q313 rfl dX6_count_112 ?_
    exact s_iret cf hr hlk () hw (by unfold R_count; rw [if_neg t1_0, if_neg t1_1, if_neg t1_2, if_neg t1_3, if_neg t1_4, if_neg t1_5, if_neg t1_6, if_pos t1_7]) (Nat.le_of_ble_eq_true rfl) (Nat.le_of_ble_eq_true rfl) dX6_count_115 hQ
  by_cases t1_8 : w = 8
  · refine lv_tableIn (tgt := 116) (off := 115) hx hb dX6_count_1 (by rw [t1_8]; decide) (by rw [t1_8]; decide) (by rw [t1_8]; decide) (by decide) ?_
    refine lv_aload_n hx hb dX6_count_116 rfl (lv_at hl 0 rfl) ?_
    refine s_get (v := .ref t) fb6 cf hw 8 rfl 1 rfl q307 rfl dX6_count_117 ?_
    refine s_getN (v := .int (d 8)) fb4 cf hw 0 rfl 14 rfl q185 rfl dX6_count_120 ?_
    exact s_iret cf hr hlk () hw (by unfold R_count; rw [if_neg t1_0, if_neg t1_1, if_neg t1_2, if_neg t1_3, if_neg t1_4, if_neg t1_5, if_neg t1_6, if_neg t1_7, if_pos t1_8]) (Nat.le_of_ble_eq_true rfl) (Nat.le_of_ble_eq_true rfl) dX6_count_123 hQ
  refine lv_tableOut (tgt := 124) hx hb dX6_count_1 (by have e0 := lv_neT t1_0 (show (0 : Int32).toInt = 0 from rfl); have e1 := lv_neT t1_1 (show (1 : Int32).toInt = 1 from rfl); have e2 := lv_neT t1_2 (show (2 : Int32).toInt = 2 from rfl); have e3 := lv_neT t1_3 (show (3 : Int32).toInt = 3 from rfl); have e4 := lv_neT t1_4 (show (4 : Int32).toInt = 4 from rfl); have e5 := lv_neT t1_5 (show (5 : Int32).toInt = 5 from rfl); have e6 := lv_neT t1_6 (show (6 : Int32).toInt = 6 from rfl); have e7 := lv_neT t1_7 (show (7 : Int32).toInt = 7 from rfl); have e8 := lv_neT t1_8 (show (8 : Int32).toInt = 8 from rfl); omega) (by decide) ?_
  refine lv_ldc hx hb hown (hts _ q356) dX6_count_124 ?_
  exact s_iret cf hr hlk () hw (by unfold R_count; rw [if_neg t1_0, if_neg t1_1, if_neg t1_2, if_neg t1_3, if_neg t1_4, if_neg t1_5, if_neg t1_6, if_neg t1_7, if_neg t1_8]) (Nat.le_of_ble_eq_true rfl) (Nat.le_of_ble_eq_true rfl) dX6_count_126 hQ
set_option maxRecDepth 100000 in
set_option maxHeartbeats 4000000 in
theorem c_trim {l : Launch} {g : GG} {t : Nat} {lad : Nat → Nat} {o t2 t3 : Nat} {ch : Nat → Nat} {kp tp wt : Int32} (x : Int32) : Ct l g yX6_trim cX6_trim 2 (Option.some Jvm.ClassFile.FieldType.int) 1 0 0 [.ref o, .int x] [bO o 6 (cF (lad 0) t t3 t2 ch kp tp wt)] (QI g (fun r (_ : Unit) => r = if 0 ≤ x ∧ x ≤ tp then x else -1000000001) (fun _ => [bO o 6 (cF (lad 0) t t3 t2 ch kp (if 0 ≤ x ∧ x ≤ tp then x else tp) wt)])) := by
  refine Ct.of (by decide) rfl ?_
  intro p e s m args below meth c A H locs ls Qf cf hr hlk hnm hQ hw hl
  have hx := cf.1
  have hb := cf.2.1
  have hml := cf.2.2.1
  have hown := cf.2.2.2.1
  have hts := cf.2.2.2.2
  have hw : WD g A s H locs [bO o 6 (cF (lad 0) t t3 t2 ch kp tp wt)] := hw
  have hl : lv_has ls 2 [(0, .ref o), (1, .int x)] := hl
  refine lv_iload_n hx hb dX6_trim_0 rfl (lv_at hl 1 rfl) ?_
  refine lv_aload_n hx hb dX6_trim_1 rfl (lv_at hl 0 rfl) ?_
  refine s_get (v := .int tp) fb6 cf hw 0 rfl 7 rfl q313 rfl dX6_trim_2 ?_
  refine s_calli (runS cf (x_isWithin x tp) hw [] (by decide) rfl km_X6_isWithin ks_X6_isWithin q353 rfl rfl hl.1 rfl dX6_trim_5) hw [] (by decide) rfl (fun _ => rfl) (fun r_3 u_1 H locs hp_2 hw => ?_)
  have hw : WD g A s H locs [bO o 6 (cF (lad 0) t t3 t2 ch kp tp wt)] := hw
  subst hp_2
  refine lv_if_ne (tgt := 14) hx hb dX6_trim_8 (by decide) (fun c8 => ?_) (fun c8 => ?_)
  · have c8 := b01_n c8
    refine lv_aload_n hx hb dX6_trim_14 rfl (lv_at hl 0 rfl) ?_
    refine lv_iload_n hx hb dX6_trim_15 rfl (lv_at hl 1 rfl) ?_
    refine s_put (v := .int x) fb6 cf hw 0 rfl 7 rfl q313 rfl rfl rfl rfl dX6_trim_16 (fun H locs hw => ?_)
    have hw : WD g A s H locs [bO o 6 (cF (lad 0) t t3 t2 ch kp x wt)] := hw
    refine lv_iload_n hx hb dX6_trim_19 rfl (lv_at hl 1 rfl) ?_
    exact s_iret cf hr hlk () (by rw [if_pos c8]; exact hw) (by rw [if_pos c8]) (Nat.le_of_ble_eq_true rfl) (Nat.le_of_ble_eq_true rfl) dX6_trim_20 hQ
  · have c8 := b01_z c8
    refine lv_ldc hx hb hown (hts _ q356) dX6_trim_11 ?_
    exact s_iret cf hr hlk () (by rw [if_neg c8]; exact hw) (by rw [if_neg c8]) (Nat.le_of_ble_eq_true rfl) (Nat.le_of_ble_eq_true rfl) dX6_trim_13 hQ
set_option maxRecDepth 100000 in
set_option maxHeartbeats 4000000 in
theorem c_why {l : Launch} {g : GG} {t : Nat} {lad ad : Nat → Nat} {d cn : DD} {o t2 t3 : Nat} {ch : Nat → Nat} {kp tp wt : Int32} (x : Int32) : Ct l g yX6_why cX6_why 2 (Option.some Jvm.ClassFile.FieldType.int) 0 0 0 [.ref o, .int x] [bO t 4 (tF (lad 0) ad (d 0) (d 9) (d 5) (d 6) (d 7) (d 1) (d 8)), bI g (ad 1) 10 (col d 0), bI g (ad 2) 10 (col d 1), bI g (ad 3) 10 (col d 2), bI g (ad 4) 10 (col d 3), bI g (ad 5) 10 (col d 4), bI g (ad 6) 3 (rulF d), bI g (ad 7) 3 cn, bO o 6 (cF (lad 0) t t3 t2 ch kp tp wt)] (QI g (fun r (_ : Unit) => r = if 0 ≤ x ∧ x ≤ 2 then cn x.toNatClampNeg else -1000000001) (fun _ => [bO t 4 (tF (lad 0) ad (d 0) (d 9) (d 5) (d 6) (d 7) (d 1) (d 8)), bI g (ad 1) 10 (col d 0), bI g (ad 2) 10 (col d 1), bI g (ad 3) 10 (col d 2), bI g (ad 4) 10 (col d 3), bI g (ad 5) 10 (col d 4), bI g (ad 6) 3 (rulF d), bI g (ad 7) 3 cn, bO o 6 (cF (lad 0) t t3 t2 ch kp tp wt)])) := by
  refine Ct.of (by decide) rfl ?_
  intro p e s m args below meth c A H locs ls Qf cf hr hlk hnm hQ hw hl
  have hx := cf.1
  have hb := cf.2.1
  have hml := cf.2.2.1
  have hown := cf.2.2.2.1
  have hts := cf.2.2.2.2
  have hw : WD g A s H locs [bO t 4 (tF (lad 0) ad (d 0) (d 9) (d 5) (d 6) (d 7) (d 1) (d 8)), bI g (ad 1) 10 (col d 0), bI g (ad 2) 10 (col d 1), bI g (ad 3) 10 (col d 2), bI g (ad 4) 10 (col d 3), bI g (ad 5) 10 (col d 4), bI g (ad 6) 3 (rulF d), bI g (ad 7) 3 cn, bO o 6 (cF (lad 0) t t3 t2 ch kp tp wt)] := hw
  have hl : lv_has ls 2 [(0, .ref o), (1, .int x)] := hl
  refine lv_iload_n hx hb dX6_why_0 rfl (lv_at hl 1 rfl) ?_
  refine lv_if_lt (tgt := 21) hx hb dX6_why_1 (by decide) (fun c1 => ?_) (fun c1 => ?_)
  · refine lv_ldc hx hb hown (hts _ q356) dX6_why_21 ?_
    exact s_iret cf hr hlk () hw (by rw [if_neg (by grind)]) (Nat.le_of_ble_eq_true rfl) (Nat.le_of_ble_eq_true rfl) dX6_why_23 hQ
  · refine lv_iload_n hx hb dX6_why_4 rfl (lv_at hl 1 rfl) ?_
    refine lv_iconst (v := 3) hx hb dX6_why_5 (by decide) ?_
    refine lv_icmp_ge (tgt := 21) hx hb dX6_why_6 (by decide) (fun c6 => ?_) (fun c6 => ?_)
    · refine lv_ldc hx hb hown (hts _ q356) dX6_why_21 ?_
      exact s_iret cf hr hlk () hw (by rw [if_neg (by grind)]) (Nat.le_of_ble_eq_true rfl) (Nat.le_of_ble_eq_true rfl) dX6_why_23 hQ
    · obtain ⟨j, hj, hjx⟩ := rng_nat (x := x) (m := 2) (by omega) (by grind) (show x ≤ 2 by have := Int32.not_le.mp c6; grind)
      subst hjx
      refine lv_aload_n hx hb dX6_why_9 rfl (lv_at hl 0 rfl) ?_
      refine s_get (v := .ref t) fb6 cf hw 8 rfl 1 rfl q307 rfl dX6_why_10 ?_
      refine s_getN (v := .ref (ad 7)) fb4 cf hw 0 rfl 7 rfl q172 rfl dX6_why_13 ?_
      refine lv_iload_n hx hb dX6_why_16 rfl (lv_at hl 1 rfl) ?_
      refine s_iald (j := j) cf hw 7 rfl (rfl) (by omega) rfl dX6_why_17 ?_
      refine lv_goto (tgt := 23) hx hb dX6_why_18 (by decide) ?_
      exact s_iret cf hr hlk () hw (by rw [if_pos (by grind), nI_clamp (by omega)]) (Nat.le_of_ble_eq_true rfl) (Nat.le_of_ble_eq_true rfl) dX6_why_23 hQ
