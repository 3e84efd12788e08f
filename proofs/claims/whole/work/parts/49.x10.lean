set_option maxRecDepth 100000 in
set_option maxHeartbeats 4000000 in
theorem c_behind {l : Launch} {g : GG} {t : Nat} {lad ad : Nat → Nat} {d cn : DD} {nm st_ : DD} {tr : Nat → Option Nat} {txb : va_W} {ft : TXC} (hF : FitAt g tr txb (cn 0) ft) (hFo : okF ft) (hI : InvH d) {n : Nat} (hn : d 0 = nI n) (hn10 : n ≤ 10) {ni : Nat} (hni : d 1 = nI ni) (h9 : ni ≤ 9999) {o t2 t3 : Nat} {ch : Nat → Nat} {kp tp wt : Int32} {ad2 : Nat → Nat} {d2 cn2 : DD} (x w : Int32) : Ct l g yX6_behind cX6_behind 3 (Option.some Jvm.ClassFile.FieldType.int) 6 0 0 [.ref o, .int x, .int w] [bO t 4 (tF (lad 0) ad (d 0) (d 9) (d 5) (d 6) (d 7) (d 1) (d 8)), bI g (ad 1) 10 (col d 0), bI g (ad 2) 10 (col d 1), bI g (ad 3) 10 (col d 2), bI g (ad 4) 10 (col d 3), bI g (ad 5) 10 (col d 4), bI g (ad 6) 3 (rulF d), bI g (ad 7) 3 cn, bO (lad 0) 0 ([.ref (lad 1), .ref (lad 2), .ref (lad 3)]), bR g 4 (lad 1) 14 tr, bI g (lad 2) 6 nm, bI g (lad 3) 96 st_, txb, bO t2 4 (tF (lad 0) ad2 (d2 0) (d2 9) (d2 5) (d2 6) (d2 7) (d2 1) (d2 8)), bI g (ad2 1) 10 (col d2 0), bI g (ad2 2) 10 (col d2 1), bI g (ad2 3) 10 (col d2 2), bI g (ad2 4) 10 (col d2 3), bI g (ad2 5) 10 (col d2 4), bI g (ad2 6) 3 (rulF d2), bI g (ad2 7) 3 cn2, bO o 6 (cF (lad 0) t t3 t2 ch kp tp wt)] (QI g (fun r (_ : DD × DD × DD × DD) => r = R_behind ft d x w) (fun u => [bO t 4 (tF (lad 0) ad (d 0) (d 9) (d 5) (d 6) (d 7) (d 1) (d 8)), bI g (ad 1) 10 (col d 0), bI g (ad 2) 10 (col d 1), bI g (ad 3) 10 (col d 2), bI g (ad 4) 10 (col d 3), bI g (ad 5) 10 (col d 4), bI g (ad 6) 3 (rulF d), bI g (ad 7) 3 cn, bO (lad 0) 0 ([.ref (lad 1), .ref (lad 2), .ref (lad 3)]), bR g 4 (lad 1) 14 tr, bI g (lad 2) 6 u.1, bI g (lad 3) 96 u.2.1, txb, bO t2 4 (tF (lad 0) ad2 (u.2.2.1 0) (u.2.2.1 9) (u.2.2.1 5) (u.2.2.1 6) (u.2.2.1 7) (u.2.2.1 1) (u.2.2.1 8)), bI g (ad2 1) 10 (col u.2.2.1 0), bI g (ad2 2) 10 (col u.2.2.1 1), bI g (ad2 3) 10 (col u.2.2.1 2), bI g (ad2 4) 10 (col u.2.2.1 3), bI g (ad2 5) 10 (col u.2.2.1 4), bI g (ad2 6) 3 (rulF u.2.2.1), bI g (ad2 7) 3 u.2.2.2, bO o 6 (cF (lad 0) t t3 t2 ch kp tp wt)])) := by
  refine Ct.of (by decide) rfl ?_
  intro p e s m args below meth c A H locs ls Qf cf hr hlk hnm hQ hw hl
  have hx := cf.1
  have hb := cf.2.1
  have hml := cf.2.2.1
  have hown := cf.2.2.2.1
  have hts := cf.2.2.2.2
  have hw : WD g A s H locs [bO t 4 (tF (lad 0) ad (d 0) (d 9) (d 5) (d 6) (d 7) (d 1) (d 8)), bI g (ad 1) 10 (col d 0), bI g (ad 2) 10 (col d 1), bI g (ad 3) 10 (col d 2), bI g (ad 4) 10 (col d 3), bI g (ad 5) 10 (col d 4), bI g (ad 6) 3 (rulF d), bI g (ad 7) 3 cn, bO (lad 0) 0 ([.ref (lad 1), .ref (lad 2), .ref (lad 3)]), bR g 4 (lad 1) 14 tr, bI g (lad 2) 6 nm, bI g (lad 3) 96 st_, txb, bO t2 4 (tF (lad 0) ad2 (d2 0) (d2 9) (d2 5) (d2 6) (d2 7) (d2 1) (d2 8)), bI g (ad2 1) 10 (col d2 0), bI g (ad2 2) 10 (col d2 1), bI g (ad2 3) 10 (col d2 2), bI g (ad2 4) 10 (col d2 3), bI g (ad2 5) 10 (col d2 4), bI g (ad2 6) 3 (rulF d2), bI g (ad2 7) 3 cn2, bO o 6 (cF (lad 0) t t3 t2 ch kp tp wt)] := hw
  have hl : lv_has ls 3 [(0, .ref o), (1, .int x), (2, .int w)] := hl
  have hb0 := n_rng hn hn10
  refine lv_iload_n hx hb dX6_behind_0 rfl (lv_at hl 1 rfl) ?_
  refine lv_bipush (v := 100) hx hb dX6_behind_1 (by decide) ?_
  refine s_calli (runS cf (x_isWithin x 100) hw [] (by decide) rfl km_X6_isWithin ks_X6_isWithin q353 rfl rfl hl.1 rfl dX6_behind_3) hw [] (by decide) rfl (fun _ => rfl) (fun r_3 u_1 H locs hp_2 hw => ?_)
  have hw : WD g A s H locs [bO t 4 (tF (lad 0) ad (d 0) (d 9) (d 5) (d 6) (d 7) (d 1) (d 8)), bI g (ad 1) 10 (col d 0), bI g (ad 2) 10 (col d 1), bI g (ad 3) 10 (col d 2), bI g (ad 4) 10 (col d 3), bI g (ad 5) 10 (col d 4), bI g (ad 6) 3 (rulF d), bI g (ad 7) 3 cn, bO (lad 0) 0 ([.ref (lad 1), .ref (lad 2), .ref (lad 3)]), bR g 4 (lad 1) 14 tr, bI g (lad 2) 6 nm, bI g (lad 3) 96 st_, txb, bO t2 4 (tF (lad 0) ad2 (d2 0) (d2 9) (d2 5) (d2 6) (d2 7) (d2 1) (d2 8)), bI g (ad2 1) 10 (col d2 0), bI g (ad2 2) 10 (col d2 1), bI g (ad2 3) 10 (col d2 2), bI g (ad2 4) 10 (col d2 3), bI g (ad2 5) 10 (col d2 4), bI g (ad2 6) 3 (rulF d2), bI g (ad2 7) 3 cn2, bO o 6 (cF (lad 0) t t3 t2 ch kp tp wt)] := hw
  subst hp_2
  refine lv_if_eq (tgt := 26) hx hb dX6_behind_6 (by decide) (fun c6 => ?_) (fun c6 => ?_)
  · have c6 := b01_z c6
    refine lv_ldc hx hb hown (hts _ q356) dX6_behind_26 ?_
    exact s_iret cf hr hlk (nm, st_, d2, cn2) hw (by unfold R_behind; rw [if_neg (fun z => c6 z.1)]) (Nat.le_of_ble_eq_true rfl) (Nat.le_of_ble_eq_true rfl) dX6_behind_28 hQ
  · have c6 := b01_n c6
    refine lv_iload_n hx hb dX6_behind_9 rfl (lv_at hl 2 rfl) ?_
    refine lv_if_lt (tgt := 26) hx hb dX6_behind_10 (by decide) (fun c10 => ?_) (fun c10 => ?_)
    · refine lv_ldc hx hb hown (hts _ q356) dX6_behind_26 ?_
      exact s_iret cf hr hlk (nm, st_, d2, cn2) hw (by unfold R_behind; rw [if_neg (fun z => (beh_n hn hn10 z.2).1 c10)]) (Nat.le_of_ble_eq_true rfl) (Nat.le_of_ble_eq_true rfl) dX6_behind_28 hQ
    · refine lv_iload_n hx hb dX6_behind_13 rfl (lv_at hl 2 rfl) ?_
      refine lv_iconst (v := 5) hx hb dX6_behind_14 (by decide) ?_
      refine lv_aload_n hx hb dX6_behind_15 rfl (lv_at hl 0 rfl) ?_
      refine s_get (v := .ref t) fb6 cf hw 21 rfl 1 rfl q307 rfl dX6_behind_16 ?_
      refine s_getN (v := .int (d 0)) fb4 cf hw 0 rfl 8 rfl q174 rfl dX6_behind_19 ?_
      refine lv_iadd hx hb dX6_behind_22 ?_
      refine lv_icmp_lt (tgt := 29) hx hb dX6_behind_23 (by decide) (fun c23 => ?_) (fun c23 => ?_)
      · have hx0 := c6
        have hcond := beh_c hn hn10 c10 c23
        obtain ⟨xn, hxn, hxx⟩ := rng_nat (m := 100) (by omega) c6.1 c6.2
        subst hxx
        refine lv_aload_n hx hb dX6_behind_29 rfl (lv_at hl 0 rfl) ?_
        refine s_get (v := .ref t2) fb6 cf hw 21 rfl 3 rfl q309 rfl dX6_behind_30 ?_
        refine lv_aload_n hx hb dX6_behind_33 rfl (lv_at hl 0 rfl) ?_
        refine s_get (v := .ref t) fb6 cf hw 21 rfl 1 rfl q307 rfl dX6_behind_34 ?_
        refine s_callv (runVN cf (x_become (t := t2) (lad := lad) (ad := ad2) (d := d2) (cn := cn2) (t2 := t) (ad2 := ad) (d2 := d) (cn2 := cn)) hw [13, 14, 15, 16, 17, 18, 19, 20, 0, 1, 2, 3, 4, 5, 6, 7] (by decide) rfl km_X4_become ki_X4_become q541 (run_recv (ci := 4) (T := TX4) (N := 15) hw 13 rfl rfl) rfl rfl hl.1 rfl dX6_behind_37) hw [13, 14, 15, 16, 17, 18, 19, 20, 0, 1, 2, 3, 4, 5, 6, 7] (by decide) rfl (fun _ => rfl) (fun u_4 H locs hp_5 hw => ?_)
        have hw : WD g A s H locs [bO t 4 (tF (lad 0) ad (d 0) (d 9) (d 5) (d 6) (d 7) (d 1) (d 8)), bI g (ad 1) 10 (col d 0), bI g (ad 2) 10 (col d 1), bI g (ad 3) 10 (col d 2), bI g (ad 4) 10 (col d 3), bI g (ad 5) 10 (col d 4), bI g (ad 6) 3 (rulF d), bI g (ad 7) 3 cn, bO (lad 0) 0 ([.ref (lad 1), .ref (lad 2), .ref (lad 3)]), bR g 4 (lad 1) 14 tr, bI g (lad 2) 6 nm, bI g (lad 3) 96 st_, txb, bO t2 4 (tF (lad 0) ad2 (d 0) (d 9) (d 5) (d 6) (d 7) (d 1) (d 8)), bI g (ad2 1) 10 (col d 0), bI g (ad2 2) 10 (col d 1), bI g (ad2 3) 10 (col d 2), bI g (ad2 4) 10 (col d 3), bI g (ad2 5) 10 (col d 4), bI g (ad2 6) 3 (rulF d), bI g (ad2 7) 3 cn, bO o 6 (cF (lad 0) t t3 t2 ch kp tp wt)] := hw
        refine lv_aload_n hx hb dX6_behind_40 rfl (lv_at hl 0 rfl) ?_
        refine s_get (v := .ref t2) fb6 cf hw 21 rfl 3 rfl q309 rfl dX6_behind_41 ?_
        refine lv_iload_n hx hb dX6_behind_44 rfl (lv_at hl 1 rfl) ?_
        refine s_callv (runVN cf (x_pass (t := t2) (lad := lad) (ad := ad2) (d := d) (cn := cn) (nm := nm) (st_ := st_) (tr := tr) (txb := txb) (ft := ft) hF hFo hI hni xn (by omega)) hw [13, 14, 15, 16, 17, 18, 19, 20, 8, 9, 10, 11, 12] (by decide) rfl km_X4_pass ki_X4_pass q499 (run_recv (ci := 4) (T := TX4) (N := 15) hw 13 rfl rfl) rfl rfl hl.1 rfl dX6_behind_45) hw [13, 14, 15, 16, 17, 18, 19, 20, 8, 9, 10, 11, 12] (by decide) rfl (fun _ => rfl) (fun u_6 H locs hp_7 hw => ?_)
        have hw : WD g A s H locs [bO t 4 (tF (lad 0) ad (d 0) (d 9) (d 5) (d 6) (d 7) (d 1) (d 8)), bI g (ad 1) 10 (col d 0), bI g (ad 2) 10 (col d 1), bI g (ad 3) 10 (col d 2), bI g (ad 4) 10 (col d 3), bI g (ad 5) 10 (col d 4), bI g (ad 6) 3 (rulF d), bI g (ad 7) 3 cn, bO (lad 0) 0 ([.ref (lad 1), .ref (lad 2), .ref (lad 3)]), bR g 4 (lad 1) 14 tr, bI g (lad 2) 6 u_6.1, bI g (lad 3) 96 u_6.2, txb, bO t2 4 (tF (lad 0) ad2 ((nightsF ft xn d) 0) ((nightsF ft xn d) 9) ((nightsF ft xn d) 5) ((nightsF ft xn d) 6) ((nightsF ft xn d) 7) ((nightsF ft xn d) 1) ((nightsF ft xn d) 8)), bI g (ad2 1) 10 (col (nightsF ft xn d) 0), bI g (ad2 2) 10 (col (nightsF ft xn d) 1), bI g (ad2 3) 10 (col (nightsF ft xn d) 2), bI g (ad2 4) 10 (col (nightsF ft xn d) 3), bI g (ad2 5) 10 (col (nightsF ft xn d) 4), bI g (ad2 6) 3 (rulF (nightsF ft xn d)), bI g (ad2 7) 3 cn, bO o 6 (cF (lad 0) t t3 t2 ch kp tp wt)] := hw
        refine lv_iload_n hx hb dX6_behind_48 rfl (lv_at hl 2 rfl) ?_
        refine lv_iconst (v := 5) hx hb dX6_behind_49 (by decide) ?_
        refine lv_icmp_ge (tgt := 64) hx hb dX6_behind_50 (by decide) (fun c50 => ?_) (fun c50 => ?_)
        · have hwH := beh_r hn hn10 hcond c50
          obtain ⟨j, hjn, hwj, hcl⟩ := isH_nat hn hn10 hwH
          refine lv_aload_n hx hb dX6_behind_64 rfl (lv_at hl 0 rfl) ?_
          refine s_get (v := .ref t2) fb6 cf hw 21 rfl 3 rfl q309 rfl dX6_behind_65 ?_
          refine s_getN (v := .ref (ad2 5)) fb4 cf hw 13 rfl 5 rfl q168 rfl dX6_behind_68 ?_
          refine lv_iload_n hx hb dX6_behind_71 rfl (lv_at hl 2 rfl) ?_
          refine lv_iconst (v := 5) hx hb dX6_behind_72 (by decide) ?_
          refine lv_isub hx hb dX6_behind_73 ?_
          refine s_iald (j := j) cf hw 18 rfl (hwj) (by omega) rfl dX6_behind_74 ?_
          refine lv_topr (y := (nightsF ft xn d) (10 + 5 * j + 4)) (rfl) ?_
          exact s_iret cf hr hlk (u_6.1, u_6.2, (nightsF ft xn d), cn) hw (by unfold R_behind; rw [if_pos ⟨hx0, hcond⟩, if_neg (Int32.not_lt.mpr c50), nI_clamp (by omega)]; rw [hwj, nI_clamp (by omega)]) (Nat.le_of_ble_eq_true rfl) (Nat.le_of_ble_eq_true rfl) dX6_behind_75 hQ
        · have hnk : nightsF ft xn d 0 = nI n := by rw [nightsF_lo (by omega) (by omega) (by omega) (by omega) (by omega) (by omega)]; exact hn
          refine lv_aload_n hx hb dX6_behind_53 rfl (lv_at hl 0 rfl) ?_
          refine s_get (v := .ref t2) fb6 cf hw 21 rfl 3 rfl q309 rfl dX6_behind_54 ?_
          refine lv_iload_n hx hb dX6_behind_57 rfl (lv_at hl 2 rfl) ?_
          refine s_calli (runVN cf (x_reading (t := t2) (lad := lad) (ad := ad2) (d := (nightsF ft xn d)) (cn := cn) (n := n) hnk hn10 w) hw [13, 17] (by decide) rfl km_X4_reading ki_X4_reading q527 (run_recv (ci := 4) (T := TX4) (N := 15) hw 13 rfl rfl) rfl rfl hl.1 rfl dX6_behind_58) hw [13, 17] (by decide) rfl (fun _ => rfl) (fun r_10 u_8 H locs hp_9 hw => ?_)
          have hw : WD g A s H locs [bO t 4 (tF (lad 0) ad (d 0) (d 9) (d 5) (d 6) (d 7) (d 1) (d 8)), bI g (ad 1) 10 (col d 0), bI g (ad 2) 10 (col d 1), bI g (ad 3) 10 (col d 2), bI g (ad 4) 10 (col d 3), bI g (ad 5) 10 (col d 4), bI g (ad 6) 3 (rulF d), bI g (ad 7) 3 cn, bO (lad 0) 0 ([.ref (lad 1), .ref (lad 2), .ref (lad 3)]), bR g 4 (lad 1) 14 tr, bI g (lad 2) 6 u_6.1, bI g (lad 3) 96 u_6.2, txb, bO t2 4 (tF (lad 0) ad2 ((nightsF ft xn d) 0) ((nightsF ft xn d) 9) ((nightsF ft xn d) 5) ((nightsF ft xn d) 6) ((nightsF ft xn d) 7) ((nightsF ft xn d) 1) ((nightsF ft xn d) 8)), bI g (ad2 1) 10 (col (nightsF ft xn d) 0), bI g (ad2 2) 10 (col (nightsF ft xn d) 1), bI g (ad2 3) 10 (col (nightsF ft xn d) 2), bI g (ad2 4) 10 (col (nightsF ft xn d) 3), bI g (ad2 5) 10 (col (nightsF ft xn d) 4), bI g (ad2 6) 3 (rulF (nightsF ft xn d)), bI g (ad2 7) 3 cn, bO o 6 (cF (lad 0) t t3 t2 ch kp tp wt)] := hw
          subst hp_9
          refine lv_goto (tgt := 75) hx hb dX6_behind_61 (by decide) ?_
          exact s_iret cf hr hlk (u_6.1, u_6.2, (nightsF ft xn d), cn) hw (by unfold R_behind; rw [if_pos ⟨hx0, hcond⟩, if_pos (Int32.not_le.mp c50), nI_clamp (by omega)]; exact terr_read (lt5_ne (Int32.not_le.mp c50)).1 (lt5_ne (Int32.not_le.mp c50)).2) (Nat.le_of_ble_eq_true rfl) (Nat.le_of_ble_eq_true rfl) dX6_behind_75 hQ
      · refine lv_ldc hx hb hown (hts _ q356) dX6_behind_26 ?_
        exact s_iret cf hr hlk (nm, st_, d2, cn2) hw (by unfold R_behind; rw [if_neg (fun z => c23 (beh_n hn hn10 z.2).2)]) (Nat.le_of_ble_eq_true rfl) (Nat.le_of_ble_eq_true rfl) dX6_behind_28 hQ
