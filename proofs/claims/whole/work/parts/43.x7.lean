set_option maxRecDepth 100000 in
set_option maxHeartbeats 4000000 in
theorem c_house {l : Launch} {g : GG} {t : Nat} {lad ad : Nat → Nat} {d cn : DD} {n : Nat} (hn : d 0 = nI n) (hn10 : n ≤ 10) {o t2 t3 : Nat} {ch : Nat → Nat} {kp tp wt : Int32} (k_ st_ p_ c_ : Int32) : Ct l g yX6_house cX6_house 5 (Option.some Jvm.ClassFile.FieldType.int) 1 0 0 [.ref o, .int k_, .int st_, .int p_, .int c_] [bO t 4 (tF (lad 0) ad (d 0) (d 9) (d 5) (d 6) (d 7) (d 1) (d 8)), bI g (ad 1) 10 (col d 0), bI g (ad 2) 10 (col d 1), bI g (ad 3) 10 (col d 2), bI g (ad 4) 10 (col d 3), bI g (ad 5) 10 (col d 4), bI g (ad 6) 3 (rulF d), bI g (ad 7) 3 cn, bO o 6 (cF (lad 0) t t3 t2 ch kp tp wt)] (QI g (fun r (_ : Unit) => r = R_house d k_ st_ p_ c_) (fun _ => [bO t 4 (tF (lad 0) ad ((D_house d k_ st_ p_ c_) 0) ((D_house d k_ st_ p_ c_) 9) ((D_house d k_ st_ p_ c_) 5) ((D_house d k_ st_ p_ c_) 6) ((D_house d k_ st_ p_ c_) 7) ((D_house d k_ st_ p_ c_) 1) ((D_house d k_ st_ p_ c_) 8)), bI g (ad 1) 10 (col (D_house d k_ st_ p_ c_) 0), bI g (ad 2) 10 (col (D_house d k_ st_ p_ c_) 1), bI g (ad 3) 10 (col (D_house d k_ st_ p_ c_) 2), bI g (ad 4) 10 (col (D_house d k_ st_ p_ c_) 3), bI g (ad 5) 10 (col (D_house d k_ st_ p_ c_) 4), bI g (ad 6) 3 (rulF (D_house d k_ st_ p_ c_)), bI g (ad 7) 3 cn, bO o 6 (cF (lad 0) t t3 t2 ch kp tp wt)])) := by
  refine Ct.of (by decide) rfl ?_
  intro p e s m args below meth c A H locs ls Qf cf hr hlk hnm hQ hw hl
  have hx := cf.1
  have hb := cf.2.1
  have hml := cf.2.2.1
  have hown := cf.2.2.2.1
  have hts := cf.2.2.2.2
  have hw : WD g A s H locs [bO t 4 (tF (lad 0) ad (d 0) (d 9) (d 5) (d 6) (d 7) (d 1) (d 8)), bI g (ad 1) 10 (col d 0), bI g (ad 2) 10 (col d 1), bI g (ad 3) 10 (col d 2), bI g (ad 4) 10 (col d 3), bI g (ad 5) 10 (col d 4), bI g (ad 6) 3 (rulF d), bI g (ad 7) 3 cn, bO o 6 (cF (lad 0) t t3 t2 ch kp tp wt)] := hw
  have hl : lv_has ls 5 [(0, .ref o), (1, .int k_), (2, .int st_), (3, .int p_), (4, .int c_)] := hl
  refine lv_iload_n hx hb dX6_house_0 rfl (lv_at hl 1 rfl) ?_
  refine s_calli (runS cf (x_isKind k_) hw [] (by decide) rfl km_X6_isKind ks_X6_isKind q350 rfl rfl hl.1 rfl dX6_house_1) hw [] (by decide) rfl (fun _ => rfl) (fun r_3 u_1 H locs hp_2 hw => ?_)
  have hw : WD g A s H locs [bO t 4 (tF (lad 0) ad (d 0) (d 9) (d 5) (d 6) (d 7) (d 1) (d 8)), bI g (ad 1) 10 (col d 0), bI g (ad 2) 10 (col d 1), bI g (ad 3) 10 (col d 2), bI g (ad 4) 10 (col d 3), bI g (ad 5) 10 (col d 4), bI g (ad 6) 3 (rulF d), bI g (ad 7) 3 cn, bO o 6 (cF (lad 0) t t3 t2 ch kp tp wt)] := hw
  subst hp_2
  refine lv_if_eq (tgt := 35) hx hb dX6_house_4 (by decide) (fun c4 => ?_) (fun c4 => ?_)
  · have c4 := b01_z c4
    refine lv_ldc hx hb hown (hts _ q356) dX6_house_35 ?_
    exact s_iret cf hr hlk () (by have q : D_house d k_ st_ p_ c_ = d := (by unfold D_house; rw [if_neg (by grind)]); rw [q]; exact hw) (by unfold R_house; rw [if_neg (by grind)]) (Nat.le_of_ble_eq_true rfl) (Nat.le_of_ble_eq_true rfl) dX6_house_37 hQ
  · have c4 := b01_n c4
    refine lv_iload_n hx hb dX6_house_7 rfl (lv_at hl 2 rfl) ?_
    refine lv_bipush (v := 99) hx hb dX6_house_8 (by decide) ?_
    refine s_calli (runS cf (x_isWithin st_ 99) hw [] (by decide) rfl km_X6_isWithin ks_X6_isWithin q353 rfl rfl hl.1 rfl dX6_house_10) hw [] (by decide) rfl (fun _ => rfl) (fun r_6 u_4 H locs hp_5 hw => ?_)
    have hw : WD g A s H locs [bO t 4 (tF (lad 0) ad (d 0) (d 9) (d 5) (d 6) (d 7) (d 1) (d 8)), bI g (ad 1) 10 (col d 0), bI g (ad 2) 10 (col d 1), bI g (ad 3) 10 (col d 2), bI g (ad 4) 10 (col d 3), bI g (ad 5) 10 (col d 4), bI g (ad 6) 3 (rulF d), bI g (ad 7) 3 cn, bO o 6 (cF (lad 0) t t3 t2 ch kp tp wt)] := hw
    subst hp_5
    refine lv_if_eq (tgt := 35) hx hb dX6_house_13 (by decide) (fun c13 => ?_) (fun c13 => ?_)
    · have c13 := b01_z c13
      refine lv_ldc hx hb hown (hts _ q356) dX6_house_35 ?_
      exact s_iret cf hr hlk () (by have q : D_house d k_ st_ p_ c_ = d := (by unfold D_house; rw [if_neg (by grind)]); rw [q]; exact hw) (by unfold R_house; rw [if_neg (by grind)]) (Nat.le_of_ble_eq_true rfl) (Nat.le_of_ble_eq_true rfl) dX6_house_37 hQ
    · have c13 := b01_n c13
      refine lv_iload_n hx hb dX6_house_16 rfl (lv_at hl 3 rfl) ?_
      refine lv_bipush (v := 99) hx hb dX6_house_17 (by decide) ?_
      refine s_calli (runS cf (x_isWithin p_ 99) hw [] (by decide) rfl km_X6_isWithin ks_X6_isWithin q353 rfl rfl hl.1 rfl dX6_house_19) hw [] (by decide) rfl (fun _ => rfl) (fun r_9 u_7 H locs hp_8 hw => ?_)
      have hw : WD g A s H locs [bO t 4 (tF (lad 0) ad (d 0) (d 9) (d 5) (d 6) (d 7) (d 1) (d 8)), bI g (ad 1) 10 (col d 0), bI g (ad 2) 10 (col d 1), bI g (ad 3) 10 (col d 2), bI g (ad 4) 10 (col d 3), bI g (ad 5) 10 (col d 4), bI g (ad 6) 3 (rulF d), bI g (ad 7) 3 cn, bO o 6 (cF (lad 0) t t3 t2 ch kp tp wt)] := hw
      subst hp_8
      refine lv_if_eq (tgt := 35) hx hb dX6_house_22 (by decide) (fun c22 => ?_) (fun c22 => ?_)
      · have c22 := b01_z c22
        refine lv_ldc hx hb hown (hts _ q356) dX6_house_35 ?_
        exact s_iret cf hr hlk () (by have q : D_house d k_ st_ p_ c_ = d := (by unfold D_house; rw [if_neg (by grind)]); rw [q]; exact hw) (by unfold R_house; rw [if_neg (by grind)]) (Nat.le_of_ble_eq_true rfl) (Nat.le_of_ble_eq_true rfl) dX6_house_37 hQ
      · have c22 := b01_n c22
        refine lv_iload hx hb dX6_house_25 (lv_at hl 4 rfl) ?_
        refine lv_bipush (v := 99) hx hb dX6_house_27 (by decide) ?_
        refine s_calli (runS cf (x_isWithin c_ 99) hw [] (by decide) rfl km_X6_isWithin ks_X6_isWithin q353 rfl rfl hl.1 rfl dX6_house_29) hw [] (by decide) rfl (fun _ => rfl) (fun r_12 u_10 H locs hp_11 hw => ?_)
        have hw : WD g A s H locs [bO t 4 (tF (lad 0) ad (d 0) (d 9) (d 5) (d 6) (d 7) (d 1) (d 8)), bI g (ad 1) 10 (col d 0), bI g (ad 2) 10 (col d 1), bI g (ad 3) 10 (col d 2), bI g (ad 4) 10 (col d 3), bI g (ad 5) 10 (col d 4), bI g (ad 6) 3 (rulF d), bI g (ad 7) 3 cn, bO o 6 (cF (lad 0) t t3 t2 ch kp tp wt)] := hw
        subst hp_11
        refine lv_if_ne (tgt := 38) hx hb dX6_house_32 (by decide) (fun c32 => ?_) (fun c32 => ?_)
        · have c32 := b01_n c32
          refine lv_aload_n hx hb dX6_house_38 rfl (lv_at hl 0 rfl) ?_
          refine s_get (v := .ref t) fb6 cf hw 8 rfl 1 rfl q307 rfl dX6_house_39 ?_
          refine s_getN (v := .int (d 0)) fb4 cf hw 0 rfl 8 rfl q174 rfl dX6_house_42 ?_
          refine lv_bipush (v := 10) hx hb dX6_house_45 (by decide) ?_
          refine lv_icmp_ge (tgt := 65) hx hb dX6_house_47 (by decide) (fun c47 => ?_) (fun c47 => ?_)
          · refine lv_ldc hx hb hown (hts _ q362) dX6_house_65 ?_
            exact s_iret cf hr hlk () (by have q : D_house d k_ st_ p_ c_ = d := (by unfold D_house; rw [if_neg (fun z => z.2 (n10_eq hn hn10 (Int32.not_lt.mpr c47)))]); rw [q]; exact hw) (by unfold R_house; rw [if_pos ⟨c4, c13, c22, c32⟩, if_pos (n10_eq hn hn10 (Int32.not_lt.mpr c47))]) (Nat.le_of_ble_eq_true rfl) (Nat.le_of_ble_eq_true rfl) dX6_house_67 hQ
          · refine lv_aload_n hx hb dX6_house_50 rfl (lv_at hl 0 rfl) ?_
            refine s_get (v := .ref t) fb6 cf hw 8 rfl 1 rfl q307 rfl dX6_house_51 ?_
            refine lv_iload_n hx hb dX6_house_54 rfl (lv_at hl 1 rfl) ?_
            refine lv_iload_n hx hb dX6_house_55 rfl (lv_at hl 2 rfl) ?_
            refine lv_iload_n hx hb dX6_house_56 rfl (lv_at hl 3 rfl) ?_
            refine lv_iload hx hb dX6_house_57 (lv_at hl 4 rfl) ?_
            refine s_calli (runVN cf (x_build (t := t) (lad := lad) (ad := ad) (d := d) (cn := cn) (n := n) hn hn10 k_ st_ p_ c_) hw [0, 1, 2, 3, 4, 5, 6, 7] (by decide) rfl km_X4_build ki_X4_build q357 (run_recv (ci := 4) (T := TX4) (N := 15) hw 0 rfl rfl) rfl rfl hl.1 rfl dX6_house_59) hw [0, 1, 2, 3, 4, 5, 6, 7] (by decide) rfl (fun _ => rfl) (fun r_15 u_13 H locs hp_14 hw => ?_)
            have hw : WD g A s H locs [bO t 4 (tF (lad 0) ad ((if d 0 = 10 then d else buildF d k_ st_ p_ c_) 0) ((if d 0 = 10 then d else buildF d k_ st_ p_ c_) 9) ((if d 0 = 10 then d else buildF d k_ st_ p_ c_) 5) ((if d 0 = 10 then d else buildF d k_ st_ p_ c_) 6) ((if d 0 = 10 then d else buildF d k_ st_ p_ c_) 7) ((if d 0 = 10 then d else buildF d k_ st_ p_ c_) 1) ((if d 0 = 10 then d else buildF d k_ st_ p_ c_) 8)), bI g (ad 1) 10 (col (if d 0 = 10 then d else buildF d k_ st_ p_ c_) 0), bI g (ad 2) 10 (col (if d 0 = 10 then d else buildF d k_ st_ p_ c_) 1), bI g (ad 3) 10 (col (if d 0 = 10 then d else buildF d k_ st_ p_ c_) 2), bI g (ad 4) 10 (col (if d 0 = 10 then d else buildF d k_ st_ p_ c_) 3), bI g (ad 5) 10 (col (if d 0 = 10 then d else buildF d k_ st_ p_ c_) 4), bI g (ad 6) 3 (rulF (if d 0 = 10 then d else buildF d k_ st_ p_ c_)), bI g (ad 7) 3 cn, bO o 6 (cF (lad 0) t t3 t2 ch kp tp wt)] := hw
            subst hp_14
            refine lv_goto (tgt := 67) hx hb dX6_house_62 (by decide) ?_
            exact s_iret cf hr hlk () (by have q : D_house d k_ st_ p_ c_ = (if d 0 = 10 then d else buildF d k_ st_ p_ c_) := (by unfold D_house; rw [if_pos ⟨⟨c4, c13, c22, c32⟩, lt10_ne (Int32.not_le.mp c47)⟩, if_neg (lt10_ne (Int32.not_le.mp c47))]); rw [q]; exact hw) (by unfold R_house; exact (if_pos ⟨c4, c13, c22, c32⟩).symm) (Nat.le_of_ble_eq_true rfl) (Nat.le_of_ble_eq_true rfl) dX6_house_67 hQ
        · have c32 := b01_z c32
          refine lv_ldc hx hb hown (hts _ q356) dX6_house_35 ?_
          exact s_iret cf hr hlk () (by have q : D_house d k_ st_ p_ c_ = d := (by unfold D_house; rw [if_neg (by grind)]); rw [q]; exact hw) (by unfold R_house; rw [if_neg (by grind)]) (Nat.le_of_ble_eq_true rfl) (Nat.le_of_ble_eq_true rfl) dX6_house_37 hQ
set_option maxRecDepth 100000 in
set_option maxHeartbeats 4000000 in
theorem c_told {l : Launch} {g : GG} {t : Nat} {lad ad : Nat → Nat} {d cn : DD} {nm st_ : DD} {tr : Nat → Option Nat} {txb : va_W} {ft : TXC} (hF : FitAt g tr txb (cn 0) ft) (hFo : okF ft) (hI : InvH d) {n : Nat} (hn : d 0 = nI n) (hn10 : n ≤ 10) {o t2 t3 : Nat} {ch : Nat → Nat} {kp tp wt : Int32} (x w : Int32) : Ct l g yX6_told cX6_told 3 (Option.some Jvm.ClassFile.FieldType.int) 4 0 0 [.ref o, .int x, .int w] [bO t 4 (tF (lad 0) ad (d 0) (d 9) (d 5) (d 6) (d 7) (d 1) (d 8)), bI g (ad 1) 10 (col d 0), bI g (ad 2) 10 (col d 1), bI g (ad 3) 10 (col d 2), bI g (ad 4) 10 (col d 3), bI g (ad 5) 10 (col d 4), bI g (ad 6) 3 (rulF d), bI g (ad 7) 3 cn, bO (lad 0) 0 ([.ref (lad 1), .ref (lad 2), .ref (lad 3)]), bR g 4 (lad 1) 14 tr, bI g (lad 2) 6 nm, bI g (lad 3) 96 st_, txb, bO o 6 (cF (lad 0) t t3 t2 ch kp tp wt)] (QI g (fun r (_ : DD × DD) => r = R_told ft d x w) (fun u => [bO t 4 (tF (lad 0) ad (d 0) (d 9) (d 5) (d 6) (d 7) (d 1) (d 8)), bI g (ad 1) 10 (col d 0), bI g (ad 2) 10 (col d 1), bI g (ad 3) 10 (col d 2), bI g (ad 4) 10 (col d 3), bI g (ad 5) 10 (col d 4), bI g (ad 6) 3 (rulF d), bI g (ad 7) 3 cn, bO (lad 0) 0 ([.ref (lad 1), .ref (lad 2), .ref (lad 3)]), bR g 4 (lad 1) 14 tr, bI g (lad 2) 6 u.1, bI g (lad 3) 96 u.2, txb, bO o 6 (cF (lad 0) t t3 t2 ch kp tp wt)])) := by
  refine Ct.of (by decide) rfl ?_
  intro p e s m args below meth c A H locs ls Qf cf hr hlk hnm hQ hw hl
  have hx := cf.1
  have hb := cf.2.1
  have hml := cf.2.2.1
  have hown := cf.2.2.2.1
  have hts := cf.2.2.2.2
  have hw : WD g A s H locs [bO t 4 (tF (lad 0) ad (d 0) (d 9) (d 5) (d 6) (d 7) (d 1) (d 8)), bI g (ad 1) 10 (col d 0), bI g (ad 2) 10 (col d 1), bI g (ad 3) 10 (col d 2), bI g (ad 4) 10 (col d 3), bI g (ad 5) 10 (col d 4), bI g (ad 6) 3 (rulF d), bI g (ad 7) 3 cn, bO (lad 0) 0 ([.ref (lad 1), .ref (lad 2), .ref (lad 3)]), bR g 4 (lad 1) 14 tr, bI g (lad 2) 6 nm, bI g (lad 3) 96 st_, txb, bO o 6 (cF (lad 0) t t3 t2 ch kp tp wt)] := hw
  have hl : lv_has ls 3 [(0, .ref o), (1, .int x), (2, .int w)] := hl
  refine lv_aload_n hx hb dX6_told_0 rfl (lv_at hl 0 rfl) ?_
  refine s_get (v := .ref t) fb6 cf hw 13 rfl 1 rfl q307 rfl dX6_told_1 ?_
  refine lv_iload_n hx hb dX6_told_4 rfl (lv_at hl 1 rfl) ?_
  refine s_calli (runVN cf (x_has (cn := cn) (t := t) (lad := lad) (ad := ad) (d := d) (n := n) hn hn10 x) hw [0] (by decide) rfl km_X4_has ki_X4_has q367 (run_recv (ci := 4) (T := TX4) (N := 15) hw 0 rfl rfl) rfl rfl hl.1 rfl dX6_told_5) hw [0] (by decide) rfl (fun _ => rfl) (fun r_3 u_1 H locs hp_2 hw => ?_)
  have hw : WD g A s H locs [bO t 4 (tF (lad 0) ad (d 0) (d 9) (d 5) (d 6) (d 7) (d 1) (d 8)), bI g (ad 1) 10 (col d 0), bI g (ad 2) 10 (col d 1), bI g (ad 3) 10 (col d 2), bI g (ad 4) 10 (col d 3), bI g (ad 5) 10 (col d 4), bI g (ad 6) 3 (rulF d), bI g (ad 7) 3 cn, bO (lad 0) 0 ([.ref (lad 1), .ref (lad 2), .ref (lad 3)]), bR g 4 (lad 1) 14 tr, bI g (lad 2) 6 nm, bI g (lad 3) 96 st_, txb, bO o 6 (cF (lad 0) t t3 t2 ch kp tp wt)] := hw
  subst hp_2
  refine lv_if_ne (tgt := 14) hx hb dX6_told_8 (by decide) (fun c8 => ?_) (fun c8 => ?_)
  · have c8 := b01_n c8
    obtain ⟨j, hjn, hxj, hcl⟩ := isH_nat hn hn10 c8
    subst hxj
    refine lv_iload_n hx hb dX6_told_14 rfl (lv_at hl 2 rfl) ?_
    by_cases t15_0 : w = 0
    · refine lv_tableIn (tgt := 64) (off := 49) hx hb dX6_told_15 (by rw [t15_0]; decide) (by rw [t15_0]; decide) (by rw [t15_0]; decide) (by decide) ?_
      refine lv_aload_n hx hb dX6_told_64 rfl (lv_at hl 0 rfl) ?_
      refine s_get (v := .ref t) fb6 cf hw 13 rfl 1 rfl q307 rfl dX6_told_65 ?_
      refine s_getN (v := .ref (ad 1)) fb4 cf hw 0 rfl 1 rfl q157 rfl dX6_told_68 ?_
      refine lv_iload_n hx hb dX6_told_71 rfl (lv_at hl 1 rfl) ?_
      refine s_iald (j := j) cf hw 1 rfl (rfl) (by omega) rfl dX6_told_72 ?_
      refine lv_topr (y := d (10 + 5 * j + 0)) (rfl) ?_
      exact s_iret cf hr hlk (nm, st_) hw (by unfold R_told; rw [if_pos ⟨c8, by rw [t15_0]; decide⟩, hcl]; unfold toldF; rw [t15_0]; rfl) (Nat.le_of_ble_eq_true rfl) (Nat.le_of_ble_eq_true rfl) dX6_told_73 hQ
    by_cases t15_1 : w = 1
    · refine lv_tableIn (tgt := 74) (off := 59) hx hb dX6_told_15 (by rw [t15_1]; decide) (by rw [t15_1]; decide) (by rw [t15_1]; decide) (by decide) ?_
      refine lv_aload_n hx hb dX6_told_74 rfl (lv_at hl 0 rfl) ?_
      refine s_get (v := .ref t) fb6 cf hw 13 rfl 1 rfl q307 rfl dX6_told_75 ?_
      refine s_getN (v := .ref (ad 2)) fb4 cf hw 0 rfl 2 rfl q160 rfl dX6_told_78 ?_
      refine lv_iload_n hx hb dX6_told_81 rfl (lv_at hl 1 rfl) ?_
      refine s_iald (j := j) cf hw 2 rfl (rfl) (by omega) rfl dX6_told_82 ?_
      refine lv_topr (y := d (10 + 5 * j + 1)) (rfl) ?_
      exact s_iret cf hr hlk (nm, st_) hw (by unfold R_told; rw [if_pos ⟨c8, by rw [t15_1]; decide⟩, hcl]; unfold toldF; rw [t15_1]; rfl) (Nat.le_of_ble_eq_true rfl) (Nat.le_of_ble_eq_true rfl) dX6_told_83 hQ
    by_cases t15_2 : w = 2
    · refine lv_tableIn (tgt := 84) (off := 69) hx hb dX6_told_15 (by rw [t15_2]; decide) (by rw [t15_2]; decide) (by rw [t15_2]; decide) (by decide) ?_
      refine lv_aload_n hx hb dX6_told_84 rfl (lv_at hl 0 rfl) ?_
      refine s_get (v := .ref t) fb6 cf hw 13 rfl 1 rfl q307 rfl dX6_told_85 ?_
      refine s_getN (v := .ref (ad 3)) fb4 cf hw 0 rfl 3 rfl q162 rfl dX6_told_88 ?_
      refine lv_iload_n hx hb dX6_told_91 rfl (lv_at hl 1 rfl) ?_
      refine s_iald (j := j) cf hw 3 rfl (rfl) (by omega) rfl dX6_told_92 ?_
      refine lv_topr (y := d (10 + 5 * j + 2)) (rfl) ?_
      exact s_iret cf hr hlk (nm, st_) hw (by unfold R_told; rw [if_pos ⟨c8, by rw [t15_2]; decide⟩, hcl]; unfold toldF; rw [t15_2]; rfl) (Nat.le_of_ble_eq_true rfl) (Nat.le_of_ble_eq_true rfl) dX6_told_93 hQ
    by_cases t15_3 : w = 3
    · refine lv_tableIn (tgt := 94) (off := 79) hx hb dX6_told_15 (by rw [t15_3]; decide) (by rw [t15_3]; decide) (by rw [t15_3]; decide) (by decide) ?_
      refine lv_aload_n hx hb dX6_told_94 rfl (lv_at hl 0 rfl) ?_
      refine s_get (v := .ref t) fb6 cf hw 13 rfl 1 rfl q307 rfl dX6_told_95 ?_
      refine s_getN (v := .ref (ad 4)) fb4 cf hw 0 rfl 4 rfl q165 rfl dX6_told_98 ?_
      refine lv_iload_n hx hb dX6_told_101 rfl (lv_at hl 1 rfl) ?_
      refine s_iald (j := j) cf hw 4 rfl (rfl) (by omega) rfl dX6_told_102 ?_
      refine lv_topr (y := d (10 + 5 * j + 3)) (rfl) ?_
      exact s_iret cf hr hlk (nm, st_) hw (by unfold R_told; rw [if_pos ⟨c8, by rw [t15_3]; decide⟩, hcl]; unfold toldF; rw [t15_3]; rfl) (Nat.le_of_ble_eq_true rfl) (Nat.le_of_ble_eq_true rfl) dX6_told_103 hQ
    by_cases t15_4 : w = 4
    · refine lv_tableIn (tgt := 104) (off := 89) hx hb dX6_told_15 (by rw [t15_4]; decide) (by rw [t15_4]; decide) (by rw [t15_4]; decide) (by decide) ?_
      refine lv_aload_n hx hb dX6_told_104 rfl (lv_at hl 0 rfl) ?_
      refine s_get (v := .ref t) fb6 cf hw 13 rfl 1 rfl q307 rfl dX6_told_105 ?_
      refine s_getN (v := .ref (ad 5)) fb4 cf hw 0 rfl 5 rfl q168 rfl dX6_told_108 ?_
      refine lv_iload_n hx hb dX6_told_111 rfl (lv_at hl 1 rfl) ?_
      refine s_iald (j := j) cf hw 5 rfl (rfl) (by omega) rfl dX6_told_112 ?_
      refine lv_topr (y := d (10 + 5 * j + 4)) (rfl) ?_
      exact s_iret cf hr hlk (nm, st_) hw (by unfold R_told; rw [if_pos ⟨c8, by rw [t15_4]; decide⟩, hcl]; unfold toldF; rw [t15_4]; rfl) (Nat.le_of_ble_eq_true rfl) (Nat.le_of_ble_eq_true rfl) dX6_told_113 hQ
    by_cases t15_5 : w = 5
    · refine lv_tableIn (tgt := 114) (off := 99) hx hb dX6_told_15 (by rw [t15_5]; decide) (by rw [t15_5]; decide) (by rw [t15_5]; decide) (by decide) ?_
      refine lv_aload_n hx hb dX6_told_114 rfl (lv_at hl 0 rfl) ?_
      refine s_get (v := .ref t) fb6 cf hw 13 rfl 1 rfl q307 rfl dX6_told_115 ?_
      refine lv_iload_n hx hb dX6_told_118 rfl (lv_at hl 1 rfl) ?_
      refine s_calli (runVN cf (x_slack (t := t) (lad := lad) (ad := ad) (d := d) (cn := cn) (nm := nm) (st_ := st_) (tr := tr) (txb := txb) (ft := ft) hF hFo hI j (by omega)) hw [0, 1, 2, 3, 4, 7, 8, 9, 10, 11, 12] (by decide) rfl km_X4_slack ki_X4_slack q371 (run_recv (ci := 4) (T := TX4) (N := 15) hw 0 rfl rfl) rfl rfl hl.1 rfl dX6_told_119) hw [0, 1, 2, 3, 4, 7, 8, 9, 10, 11, 12] (by decide) rfl (fun _ => rfl) (fun r_6 u_4 H locs hp_5 hw => ?_)
      have hw : WD g A s H locs [bO t 4 (tF (lad 0) ad (d 0) (d 9) (d 5) (d 6) (d 7) (d 1) (d 8)), bI g (ad 1) 10 (col d 0), bI g (ad 2) 10 (col d 1), bI g (ad 3) 10 (col d 2), bI g (ad 4) 10 (col d 3), bI g (ad 5) 10 (col d 4), bI g (ad 6) 3 (rulF d), bI g (ad 7) 3 cn, bO (lad 0) 0 ([.ref (lad 1), .ref (lad 2), .ref (lad 3)]), bR g 4 (lad 1) 14 tr, bI g (lad 2) 6 u_4.1, bI g (lad 3) 96 u_4.2, txb, bO o 6 (cF (lad 0) t t3 t2 ch kp tp wt)] := hw
      subst hp_5
      exact s_iret cf hr hlk (u_4.1, u_4.2) hw (by unfold R_told; rw [if_pos ⟨c8, by rw [t15_5]; decide⟩, hcl]; unfold toldF; rw [t15_5]; rfl) (Nat.le_of_ble_eq_true rfl) (Nat.le_of_ble_eq_true rfl) dX6_told_122 hQ
    by_cases t15_6 : w = 6
    · refine lv_tableIn (tgt := 123) (off := 108) hx hb dX6_told_15 (by rw [t15_6]; decide) (by rw [t15_6]; decide) (by rw [t15_6]; decide) (by decide) ?_
      refine lv_aload_n hx hb dX6_told_123 rfl (lv_at hl 0 rfl) ?_
      refine s_get (v := .ref t) fb6 cf hw 13 rfl 1 rfl q307 rfl dX6_told_124 ?_
      refine lv_iload_n hx hb dX6_told_127 rfl (lv_at hl 1 rfl) ?_
      refine s_calli (runVN cf (x_bends (cn := cn) (lad := lad) (ad := ad) (d := d) (t := t) j (by omega)) hw [0, 1, 4] (by decide) rfl km_X4_bends ki_X4_bends q418 (run_recv (ci := 4) (T := TX4) (N := 15) hw 0 rfl rfl) rfl rfl hl.1 rfl dX6_told_128) hw [0, 1, 4] (by decide) rfl (fun _ => rfl) (fun r_9 u_7 H locs hp_8 hw => ?_)
      have hw : WD g A s H locs [bO t 4 (tF (lad 0) ad (d 0) (d 9) (d 5) (d 6) (d 7) (d 1) (d 8)), bI g (ad 1) 10 (col d 0), bI g (ad 2) 10 (col d 1), bI g (ad 3) 10 (col d 2), bI g (ad 4) 10 (col d 3), bI g (ad 5) 10 (col d 4), bI g (ad 6) 3 (rulF d), bI g (ad 7) 3 cn, bO (lad 0) 0 ([.ref (lad 1), .ref (lad 2), .ref (lad 3)]), bR g 4 (lad 1) 14 tr, bI g (lad 2) 6 nm, bI g (lad 3) 96 st_, txb, bO o 6 (cF (lad 0) t t3 t2 ch kp tp wt)] := hw
      subst hp_8
      exact s_iret cf hr hlk (nm, st_) hw (by unfold R_told; rw [if_pos ⟨c8, by rw [t15_6]; decide⟩, hcl]; unfold toldF; rw [t15_6]; rfl) (Nat.le_of_ble_eq_true rfl) (Nat.le_of_ble_eq_true rfl) dX6_told_131 hQ
    by_cases t15_7 : w = 7
    · refine lv_tableIn (tgt := 132) (off := 117) hx hb dX6_told_15 (by rw [t15_7]; decide) (by rw [t15_7]; decide) (by rw [t15_7]; decide) (by decide) ?_
      refine lv_aload_n hx hb dX6_told_132 rfl (lv_at hl 0 rfl) ?_
      refine s_get (v := .ref t) fb6 cf hw 13 rfl 1 rfl q307 rfl dX6_told_133 ?_
      refine lv_iload_n hx hb dX6_told_136 rfl (lv_at hl 1 rfl) ?_
      refine s_calli (runVN cf (x_burns (cn := cn) (lad := lad) (ad := ad) (d := d) (t := t) j (by omega) hI) hw [0, 1] (by decide) rfl km_X4_burns ki_X4_burns q422 (run_recv (ci := 4) (T := TX4) (N := 15) hw 0 rfl rfl) rfl rfl hl.1 rfl dX6_told_137) hw [0, 1] (by decide) rfl (fun _ => rfl) (fun r_12 u_10 H locs hp_11 hw => ?_)
      have hw : WD g A s H locs [bO t 4 (tF (lad 0) ad (d 0) (d 9) (d 5) (d 6) (d 7) (d 1) (d 8)), bI g (ad 1) 10 (col d 0), bI g (ad 2) 10 (col d 1), bI g (ad 3) 10 (col d 2), bI g (ad 4) 10 (col d 3), bI g (ad 5) 10 (col d 4), bI g (ad 6) 3 (rulF d), bI g (ad 7) 3 cn, bO (lad 0) 0 ([.ref (lad 1), .ref (lad 2), .ref (lad 3)]), bR g 4 (lad 1) 14 tr, bI g (lad 2) 6 nm, bI g (lad 3) 96 st_, txb, bO o 6 (cF (lad 0) t t3 t2 ch kp tp wt)] := hw
      subst hp_11
      exact s_iret cf hr hlk (nm, st_) hw (by unfold R_told; rw [if_pos ⟨c8, by rw [t15_7]; decide⟩, hcl]; unfold toldF; rw [t15_7]; rfl) (Nat.le_of_ble_eq_true rfl) (Nat.le_of_ble_eq_true rfl) dX6_told_140 hQ
    by_cases t15_8 : w = 8
    · refine lv_tableIn (tgt := 141) (off := 126) hx hb dX6_told_15 (by rw [t15_8]; decide) (by rw [t15_8]; decide) (by rw [t15_8]; decide) (by decide) ?_
      refine lv_aload_n hx hb dX6_told_141 rfl (lv_at hl 0 rfl) ?_
      refine s_get (v := .ref t) fb6 cf hw 13 rfl 1 rfl q307 rfl dX6_told_142 ?_
      refine s_getN (v := .ref (ad 1)) fb4 cf hw 0 rfl 1 rfl q157 rfl dX6_told_145 ?_
      refine lv_iload_n hx hb dX6_told_148 rfl (lv_at hl 1 rfl) ?_
      refine s_iald (j := j) cf hw 1 rfl (rfl) (by omega) rfl dX6_told_149 ?_
      refine lv_topr (y := d (10 + 5 * j + 0)) (rfl) ?_
      refine lv_aload_n hx hb dX6_told_150 rfl (lv_at hl 0 rfl) ?_
      refine s_get (v := .ref t) fb6 cf hw 13 rfl 1 rfl q307 rfl dX6_told_151 ?_
      refine s_getN (v := .ref (ad 2)) fb4 cf hw 0 rfl 2 rfl q160 rfl dX6_told_154 ?_
      refine lv_iload_n hx hb dX6_told_157 rfl (lv_at hl 1 rfl) ?_
      refine s_iald (j := j) cf hw 2 rfl (rfl) (by omega) rfl dX6_told_158 ?_
      refine lv_topr (y := d (10 + 5 * j + 1)) (rfl) ?_
      refine lv_aload_n hx hb dX6_told_159 rfl (lv_at hl 0 rfl) ?_
      refine s_get (v := .ref t) fb6 cf hw 13 rfl 1 rfl q307 rfl dX6_told_160 ?_
      refine s_getN (v := .ref (ad 4)) fb4 cf hw 0 rfl 4 rfl q165 rfl dX6_told_163 ?_
      refine lv_iload_n hx hb dX6_told_166 rfl (lv_at hl 1 rfl) ?_
      refine s_iald (j := j) cf hw 4 rfl (rfl) (by omega) rfl dX6_told_167 ?_
      refine lv_topr (y := d (10 + 5 * j + 3)) (rfl) ?_
      refine lv_aload_n hx hb dX6_told_168 rfl (lv_at hl 0 rfl) ?_
      refine s_get (v := .ref t) fb6 cf hw 13 rfl 1 rfl q307 rfl dX6_told_169 ?_
      refine s_getN (v := .ref (ad 5)) fb4 cf hw 0 rfl 5 rfl q168 rfl dX6_told_172 ?_
      refine lv_iload_n hx hb dX6_told_175 rfl (lv_at hl 1 rfl) ?_
      refine s_iald (j := j) cf hw 5 rfl (rfl) (by omega) rfl dX6_told_176 ?_
      refine lv_topr (y := d (10 + 5 * j + 4)) (rfl) ?_
      refine s_calli (runS cf (x_worth (d (10 + 5 * j + 0)) (d (10 + 5 * j + 1)) (d (10 + 5 * j + 3)) (d (10 + 5 * j + 4))) hw [] (by decide) rfl km_X6_worth ks_X6_worth q429 rfl rfl hl.1 rfl dX6_told_177) hw [] (by decide) rfl (fun _ => rfl) (fun r_15 u_13 H locs hp_14 hw => ?_)
      have hw : WD g A s H locs [bO t 4 (tF (lad 0) ad (d 0) (d 9) (d 5) (d 6) (d 7) (d 1) (d 8)), bI g (ad 1) 10 (col d 0), bI g (ad 2) 10 (col d 1), bI g (ad 3) 10 (col d 2), bI g (ad 4) 10 (col d 3), bI g (ad 5) 10 (col d 4), bI g (ad 6) 3 (rulF d), bI g (ad 7) 3 cn, bO (lad 0) 0 ([.ref (lad 1), .ref (lad 2), .ref (lad 3)]), bR g 4 (lad 1) 14 tr, bI g (lad 2) 6 nm, bI g (lad 3) 96 st_, txb, bO o 6 (cF (lad 0) t t3 t2 ch kp tp wt)] := hw
      subst hp_14
      exact s_iret cf hr hlk (nm, st_) hw (by unfold R_told; rw [if_pos ⟨c8, by rw [t15_8]; decide⟩, hcl]; unfold toldF; rw [t15_8]; rfl) (Nat.le_of_ble_eq_true rfl) (Nat.le_of_ble_eq_true rfl) dX6_told_180 hQ
    refine lv_tableOut (tgt := 181) hx hb dX6_told_15 (by have e0 := lv_neT t15_0 (show (0 : Int32).toInt = 0 from rfl); have e1 := lv_neT t15_1 (show (1 : Int32).toInt = 1 from rfl); have e2 := lv_neT t15_2 (show (2 : Int32).toInt = 2 from rfl); have e3 := lv_neT t15_3 (show (3 : Int32).toInt = 3 from rfl); have e4 := lv_neT t15_4 (show (4 : Int32).toInt = 4 from rfl); have e5 := lv_neT t15_5 (show (5 : Int32).toInt = 5 from rfl); have e6 := lv_neT t15_6 (show (6 : Int32).toInt = 6 from rfl); have e7 := lv_neT t15_7 (show (7 : Int32).toInt = 7 from rfl); have e8 := lv_neT t15_8 (show (8 : Int32).toInt = 8 from rfl); omega) (by decide) ?_
    refine lv_ldc hx hb hown (hts _ q356) dX6_told_181 ?_
    have hno : ¬ (0 ≤ w ∧ w ≤ 8) := by
      intro z
      obtain ⟨wn, hwn, ew⟩ := rng_nat (m := 8) (by omega) z.1 z.2
      rcases (show wn = 0 ∨ wn = 1 ∨ wn = 2 ∨ wn = 3 ∨ wn = 4 ∨ wn = 5 ∨ wn = 6 ∨ wn = 7 ∨ wn = 8 by omega) with e0 | e0 | e0 | e0 | e0 | e0 | e0 | e0 | e0
      · exact t15_0 (by rw [ew, e0]; rfl)
      · exact t15_1 (by rw [ew, e0]; rfl)
      · exact t15_2 (by rw [ew, e0]; rfl)
      · exact t15_3 (by rw [ew, e0]; rfl)
      · exact t15_4 (by rw [ew, e0]; rfl)
      · exact t15_5 (by rw [ew, e0]; rfl)
      · exact t15_6 (by rw [ew, e0]; rfl)
      · exact t15_7 (by rw [ew, e0]; rfl)
      · exact t15_8 (by rw [ew, e0]; rfl)
    exact s_iret cf hr hlk (nm, st_) hw (by unfold R_told; rw [if_neg (fun z => hno z.2)]) (Nat.le_of_ble_eq_true rfl) (Nat.le_of_ble_eq_true rfl) dX6_told_183 hQ
  · have c8 := b01_z c8
    refine lv_ldc hx hb hown (hts _ q356) dX6_told_11 ?_
    exact s_iret cf hr hlk (nm, st_) hw (by unfold R_told; rw [if_neg (fun z => c8 z.1)]) (Nat.le_of_ble_eq_true rfl) (Nat.le_of_ble_eq_true rfl) dX6_told_13 hQ
set_option maxRecDepth 100000 in
set_option maxHeartbeats 4000000 in
theorem c_as {l : Launch} {g : GG} {t : Nat} {lad ad : Nat → Nat} {d cn : DD} (hI : InvH d) {n : Nat} (hn : d 0 = nI n) (hn10 : n ≤ 10) {o t2 t3 : Nat} {ch : Nat → Nat} {kp tp wt : Int32} (x k : Int32) : Ct l g yX6_as cX6_as 3 (Option.some Jvm.ClassFile.FieldType.int) 2 0 0 [.ref o, .int x, .int k] [bO t 4 (tF (lad 0) ad (d 0) (d 9) (d 5) (d 6) (d 7) (d 1) (d 8)), bI g (ad 1) 10 (col d 0), bI g (ad 2) 10 (col d 1), bI g (ad 3) 10 (col d 2), bI g (ad 4) 10 (col d 3), bI g (ad 5) 10 (col d 4), bI g (ad 6) 3 (rulF d), bI g (ad 7) 3 cn, bO o 6 (cF (lad 0) t t3 t2 ch kp tp wt)] (QI g (fun r (_ : Unit) => r = R_as d x k) (fun _ => [bO t 4 (tF (lad 0) ad (d 0) (d 9) (d 5) (d 6) (d 7) (d 1) (d 8)), bI g (ad 1) 10 (col d 0), bI g (ad 2) 10 (col d 1), bI g (ad 3) 10 (col d 2), bI g (ad 4) 10 (col d 3), bI g (ad 5) 10 (col d 4), bI g (ad 6) 3 (rulF d), bI g (ad 7) 3 cn, bO o 6 (cF (lad 0) t t3 t2 ch kp tp wt)])) := by
  refine Ct.of (by decide) rfl ?_
  intro p e s m args below meth c A H locs ls Qf cf hr hlk hnm hQ hw hl
  have hx := cf.1
  have hb := cf.2.1
  have hml := cf.2.2.1
  have hown := cf.2.2.2.1
  have hts := cf.2.2.2.2
  have hw : WD g A s H locs [bO t 4 (tF (lad 0) ad (d 0) (d 9) (d 5) (d 6) (d 7) (d 1) (d 8)), bI g (ad 1) 10 (col d 0), bI g (ad 2) 10 (col d 1), bI g (ad 3) 10 (col d 2), bI g (ad 4) 10 (col d 3), bI g (ad 5) 10 (col d 4), bI g (ad 6) 3 (rulF d), bI g (ad 7) 3 cn, bO o 6 (cF (lad 0) t t3 t2 ch kp tp wt)] := hw
  have hl : lv_has ls 3 [(0, .ref o), (1, .int x), (2, .int k)] := hl
  refine lv_aload_n hx hb dX6_as_0 rfl (lv_at hl 0 rfl) ?_
  refine s_get (v := .ref t) fb6 cf hw 8 rfl 1 rfl q307 rfl dX6_as_1 ?_
  refine lv_iload_n hx hb dX6_as_4 rfl (lv_at hl 1 rfl) ?_
  refine s_calli (runVN cf (x_has (cn := cn) (t := t) (lad := lad) (ad := ad) (d := d) (n := n) hn hn10 x) hw [0] (by decide) rfl km_X4_has ki_X4_has q367 (run_recv (ci := 4) (T := TX4) (N := 15) hw 0 rfl rfl) rfl rfl hl.1 rfl dX6_as_5) hw [0] (by decide) rfl (fun _ => rfl) (fun r_3 u_1 H locs hp_2 hw => ?_)
  have hw : WD g A s H locs [bO t 4 (tF (lad 0) ad (d 0) (d 9) (d 5) (d 6) (d 7) (d 1) (d 8)), bI g (ad 1) 10 (col d 0), bI g (ad 2) 10 (col d 1), bI g (ad 3) 10 (col d 2), bI g (ad 4) 10 (col d 3), bI g (ad 5) 10 (col d 4), bI g (ad 6) 3 (rulF d), bI g (ad 7) 3 cn, bO o 6 (cF (lad 0) t t3 t2 ch kp tp wt)] := hw
  subst hp_2
  refine lv_if_eq (tgt := 18) hx hb dX6_as_8 (by decide) (fun c8 => ?_) (fun c8 => ?_)
  · have c8 := b01_z c8
    refine lv_ldc hx hb hown (hts _ q356) dX6_as_18 ?_
    exact s_iret cf hr hlk () hw (by unfold R_as; rw [if_neg (by grind)]) (Nat.le_of_ble_eq_true rfl) (Nat.le_of_ble_eq_true rfl) dX6_as_20 hQ
  · have c8 := b01_n c8
    refine lv_iload_n hx hb dX6_as_11 rfl (lv_at hl 2 rfl) ?_
    refine s_calli (runS cf (x_isKind k) hw [] (by decide) rfl km_X6_isKind ks_X6_isKind q350 rfl rfl hl.1 rfl dX6_as_12) hw [] (by decide) rfl (fun _ => rfl) (fun r_6 u_4 H locs hp_5 hw => ?_)
    have hw : WD g A s H locs [bO t 4 (tF (lad 0) ad (d 0) (d 9) (d 5) (d 6) (d 7) (d 1) (d 8)), bI g (ad 1) 10 (col d 0), bI g (ad 2) 10 (col d 1), bI g (ad 3) 10 (col d 2), bI g (ad 4) 10 (col d 3), bI g (ad 5) 10 (col d 4), bI g (ad 6) 3 (rulF d), bI g (ad 7) 3 cn, bO o 6 (cF (lad 0) t t3 t2 ch kp tp wt)] := hw
    subst hp_5
    refine lv_if_ne (tgt := 21) hx hb dX6_as_15 (by decide) (fun c15 => ?_) (fun c15 => ?_)
    · have c15 := b01_n c15
      obtain ⟨j, hjn, hxj, hcl⟩ := isH_nat hn hn10 c8
      subst hxj
      refine lv_aload_n hx hb dX6_as_21 rfl (lv_at hl 0 rfl) ?_
      refine s_get (v := .ref t) fb6 cf hw 8 rfl 1 rfl q307 rfl dX6_as_22 ?_
      refine s_getN (v := .ref (ad 1)) fb4 cf hw 0 rfl 1 rfl q157 rfl dX6_as_25 ?_
      refine lv_iload_n hx hb dX6_as_28 rfl (lv_at hl 1 rfl) ?_
      refine s_iald (j := j) cf hw 1 rfl (rfl) (by omega) rfl dX6_as_29 ?_
      refine lv_topr (y := d (10 + 5 * j + 0)) (rfl) ?_
      refine lv_iload_n hx hb dX6_as_30 rfl (lv_at hl 2 rfl) ?_
      refine s_calli (runS cf (x_isOf (d (10 + 5 * j + 0)) k (inv_at hI j 0 (by omega))) hw [] (by decide) rfl km_X6_isOf ks_X6_isOf q436 rfl rfl hl.1 rfl dX6_as_31) hw [] (by decide) rfl (fun _ => rfl) (fun r_9 u_7 H locs hp_8 hw => ?_)
      have hw : WD g A s H locs [bO t 4 (tF (lad 0) ad (d 0) (d 9) (d 5) (d 6) (d 7) (d 1) (d 8)), bI g (ad 1) 10 (col d 0), bI g (ad 2) 10 (col d 1), bI g (ad 3) 10 (col d 2), bI g (ad 4) 10 (col d 3), bI g (ad 5) 10 (col d 4), bI g (ad 6) 3 (rulF d), bI g (ad 7) 3 cn, bO o 6 (cF (lad 0) t t3 t2 ch kp tp wt)] := hw
      subst hp_8
      refine lv_if_eq (tgt := 49) hx hb dX6_as_34 (by decide) (fun c34 => ?_) (fun c34 => ?_)
      · have c34 := b01_z c34
        refine lv_ldc hx hb hown (hts _ q441) dX6_as_49 ?_
        exact s_iret cf hr hlk () hw (by unfold R_as; rw [if_pos ⟨c8, c15⟩, hcl, if_neg c34]) (Nat.le_of_ble_eq_true rfl) (Nat.le_of_ble_eq_true rfl) dX6_as_51 hQ
      · have c34 := b01_n c34
        refine lv_aload_n hx hb dX6_as_37 rfl (lv_at hl 0 rfl) ?_
        refine s_get (v := .ref t) fb6 cf hw 8 rfl 1 rfl q307 rfl dX6_as_38 ?_
        refine s_getN (v := .ref (ad 2)) fb4 cf hw 0 rfl 2 rfl q160 rfl dX6_as_41 ?_
        refine lv_iload_n hx hb dX6_as_44 rfl (lv_at hl 1 rfl) ?_
        refine s_iald (j := j) cf hw 2 rfl (rfl) (by omega) rfl dX6_as_45 ?_
        refine lv_topr (y := d (10 + 5 * j + 1)) (rfl) ?_
        refine lv_goto (tgt := 51) hx hb dX6_as_46 (by decide) ?_
        exact s_iret cf hr hlk () hw (by unfold R_as; rw [if_pos ⟨c8, c15⟩, hcl, if_pos c34]) (Nat.le_of_ble_eq_true rfl) (Nat.le_of_ble_eq_true rfl) dX6_as_51 hQ
    · have c15 := b01_z c15
      refine lv_ldc hx hb hown (hts _ q356) dX6_as_18 ?_
      exact s_iret cf hr hlk () hw (by unfold R_as; rw [if_neg (by grind)]) (Nat.le_of_ble_eq_true rfl) (Nat.le_of_ble_eq_true rfl) dX6_as_20 hQ
set_option maxRecDepth 100000 in
set_option maxHeartbeats 4000000 in
theorem c_turns {l : Launch} {g : GG} {t : Nat} {lad ad : Nat → Nat} {d cn : DD} {n : Nat} (hn : d 0 = nI n) (hn10 : n ≤ 10) {o t2 t3 : Nat} {ch : Nat → Nat} {kp tp wt : Int32} (x k : Int32) : Ct l g yX6_turns cX6_turns 4 (Option.some Jvm.ClassFile.FieldType.int) 1 0 0 [.ref o, .int x, .int k] [bO t 4 (tF (lad 0) ad (d 0) (d 9) (d 5) (d 6) (d 7) (d 1) (d 8)), bI g (ad 1) 10 (col d 0), bI g (ad 2) 10 (col d 1), bI g (ad 3) 10 (col d 2), bI g (ad 4) 10 (col d 3), bI g (ad 5) 10 (col d 4), bI g (ad 6) 3 (rulF d), bI g (ad 7) 3 cn, bO o 6 (cF (lad 0) t t3 t2 ch kp tp wt)] (QI g (fun r (_ : Unit) => r = R_turns d x k) (fun _ => [bO t 4 (tF (lad 0) ad ((D_turns d x k) 0) ((D_turns d x k) 9) ((D_turns d x k) 5) ((D_turns d x k) 6) ((D_turns d x k) 7) ((D_turns d x k) 1) ((D_turns d x k) 8)), bI g (ad 1) 10 (col (D_turns d x k) 0), bI g (ad 2) 10 (col (D_turns d x k) 1), bI g (ad 3) 10 (col (D_turns d x k) 2), bI g (ad 4) 10 (col (D_turns d x k) 3), bI g (ad 5) 10 (col (D_turns d x k) 4), bI g (ad 6) 3 (rulF (D_turns d x k)), bI g (ad 7) 3 cn, bO o 6 (cF (lad 0) t t3 t2 ch kp tp wt)])) := by
  refine Ct.of (by decide) rfl ?_
  intro p e s m args below meth c A H locs ls Qf cf hr hlk hnm hQ hw hl
  have hx := cf.1
  have hb := cf.2.1
  have hml := cf.2.2.1
  have hown := cf.2.2.2.1
  have hts := cf.2.2.2.2
  have hw : WD g A s H locs [bO t 4 (tF (lad 0) ad (d 0) (d 9) (d 5) (d 6) (d 7) (d 1) (d 8)), bI g (ad 1) 10 (col d 0), bI g (ad 2) 10 (col d 1), bI g (ad 3) 10 (col d 2), bI g (ad 4) 10 (col d 3), bI g (ad 5) 10 (col d 4), bI g (ad 6) 3 (rulF d), bI g (ad 7) 3 cn, bO o 6 (cF (lad 0) t t3 t2 ch kp tp wt)] := hw
  have hl : lv_has ls 4 [(0, .ref o), (1, .int x), (2, .int k)] := hl
  refine lv_aload_n hx hb dX6_turns_0 rfl (lv_at hl 0 rfl) ?_
  refine s_get (v := .ref t) fb6 cf hw 8 rfl 1 rfl q307 rfl dX6_turns_1 ?_
  refine lv_iload_n hx hb dX6_turns_4 rfl (lv_at hl 1 rfl) ?_
  refine s_calli (runVN cf (x_has (cn := cn) (t := t) (lad := lad) (ad := ad) (d := d) (n := n) hn hn10 x) hw [0] (by decide) rfl km_X4_has ki_X4_has q367 (run_recv (ci := 4) (T := TX4) (N := 15) hw 0 rfl rfl) rfl rfl hl.1 rfl dX6_turns_5) hw [0] (by decide) rfl (fun _ => rfl) (fun r_3 u_1 H locs hp_2 hw => ?_)
  have hw : WD g A s H locs [bO t 4 (tF (lad 0) ad (d 0) (d 9) (d 5) (d 6) (d 7) (d 1) (d 8)), bI g (ad 1) 10 (col d 0), bI g (ad 2) 10 (col d 1), bI g (ad 3) 10 (col d 2), bI g (ad 4) 10 (col d 3), bI g (ad 5) 10 (col d 4), bI g (ad 6) 3 (rulF d), bI g (ad 7) 3 cn, bO o 6 (cF (lad 0) t t3 t2 ch kp tp wt)] := hw
  subst hp_2
  refine lv_if_eq (tgt := 18) hx hb dX6_turns_8 (by decide) (fun c8 => ?_) (fun c8 => ?_)
  · have c8 := b01_z c8
    refine lv_ldc hx hb hown (hts _ q356) dX6_turns_18 ?_
    exact s_iret cf hr hlk () (by have q : D_turns d x k = d := (by unfold D_turns; rw [if_neg (by grind)]); rw [q]; exact hw) (by unfold R_turns; rw [if_neg (by grind)]) (Nat.le_of_ble_eq_true rfl) (Nat.le_of_ble_eq_true rfl) dX6_turns_20 hQ
  · have c8 := b01_n c8
    refine lv_iload_n hx hb dX6_turns_11 rfl (lv_at hl 2 rfl) ?_
    refine s_calli (runS cf (x_isKind k) hw [] (by decide) rfl km_X6_isKind ks_X6_isKind q350 rfl rfl hl.1 rfl dX6_turns_12) hw [] (by decide) rfl (fun _ => rfl) (fun r_6 u_4 H locs hp_5 hw => ?_)
    have hw : WD g A s H locs [bO t 4 (tF (lad 0) ad (d 0) (d 9) (d 5) (d 6) (d 7) (d 1) (d 8)), bI g (ad 1) 10 (col d 0), bI g (ad 2) 10 (col d 1), bI g (ad 3) 10 (col d 2), bI g (ad 4) 10 (col d 3), bI g (ad 5) 10 (col d 4), bI g (ad 6) 3 (rulF d), bI g (ad 7) 3 cn, bO o 6 (cF (lad 0) t t3 t2 ch kp tp wt)] := hw
    subst hp_5
    refine lv_if_ne (tgt := 21) hx hb dX6_turns_15 (by decide) (fun c15 => ?_) (fun c15 => ?_)
    · have c15 := b01_n c15
      obtain ⟨j, hjn, hxj, hcl⟩ := isH_nat hn hn10 c8
      subst hxj
      refine lv_aload_n hx hb dX6_turns_21 rfl (lv_at hl 0 rfl) ?_
      refine s_get (v := .ref t) fb6 cf hw 8 rfl 1 rfl q307 rfl dX6_turns_22 ?_
      refine s_getN (v := .ref (ad 1)) fb4 cf hw 0 rfl 1 rfl q157 rfl dX6_turns_25 ?_
      refine lv_iload_n hx hb dX6_turns_28 rfl (lv_at hl 1 rfl) ?_
      refine s_iald (j := j) cf hw 1 rfl (rfl) (by omega) rfl dX6_turns_29 ?_
      refine lv_topr (y := d (10 + 5 * j + 0)) (rfl) ?_
      refine lv_istore_n (lv' := [(3, .int (d (10 + 5 * j + 0))), (0, .ref o), (1, .int (nI j)), (2, .int k)]) hx hb dX6_turns_30 rfl hl (by decide) rfl (fun ls hl => ?_)
      refine lv_aload_n hx hb dX6_turns_31 rfl (lv_at hl 1 rfl) ?_
      refine s_get (v := .ref t) fb6 cf hw 8 rfl 1 rfl q307 rfl dX6_turns_32 ?_
      refine s_getN (v := .ref (ad 1)) fb4 cf hw 0 rfl 1 rfl q157 rfl dX6_turns_35 ?_
      refine lv_iload_n hx hb dX6_turns_38 rfl (lv_at hl 2 rfl) ?_
      refine lv_iload_n hx hb dX6_turns_39 rfl (lv_at hl 3 rfl) ?_
      refine s_iast (j := j) cf hw 1 rfl (rfl) (by omega) rfl dX6_turns_40 (fun H locs hw => ?_)
      have hw : WD g A s H locs [bO t 4 (tF (lad 0) ad (d 0) (d 9) (d 5) (d 6) (d 7) (d 1) (d 8)), bI g (ad 1) 10 (upd (col d 0) j k), bI g (ad 2) 10 (col d 1), bI g (ad 3) 10 (col d 2), bI g (ad 4) 10 (col d 3), bI g (ad 5) 10 (col d 4), bI g (ad 6) 3 (rulF d), bI g (ad 7) 3 cn, bO o 6 (cF (lad 0) t t3 t2 ch kp tp wt)] := hw
      refine lv_iload_n hx hb dX6_turns_41 rfl (lv_at hl 0 rfl) ?_
      exact s_iret cf hr hlk () (by have q : D_turns d (nI j) k = upd d (10 + 5 * j + 0) k := (by unfold D_turns; rw [if_pos ⟨c8, c15⟩, hcl]); rw [q]; exact tw_wd (rest := [bO o 6 (cF (lad 0) t t3 t2 ch kp tp wt)]) (e := upd d (10 + 5 * j + 0) k) (tw_h j 0 k (by omega) (tw_id d)) hw) (by unfold R_turns; rw [if_pos ⟨c8, c15⟩, hcl]) (Nat.le_of_ble_eq_true rfl) (Nat.le_of_ble_eq_true rfl) dX6_turns_42 hQ
    · have c15 := b01_z c15
      refine lv_ldc hx hb hown (hts _ q356) dX6_turns_18 ?_
      exact s_iret cf hr hlk () (by have q : D_turns d x k = d := (by unfold D_turns; rw [if_neg (by grind)]); rw [q]; exact hw) (by unfold R_turns; rw [if_neg (by grind)]) (Nat.le_of_ble_eq_true rfl) (Nat.le_of_ble_eq_true rfl) dX6_turns_20 hQ
set_option maxRecDepth 100000 in
set_option maxHeartbeats 4000000 in
theorem c_seed {l : Launch} {g : GG} {t : Nat} {lad ad : Nat → Nat} {d cn : DD} {o t2 t3 : Nat} {ch : Nat → Nat} {kp tp wt : Int32} (v : Int32) : Ct l g yX6_seed cX6_seed 3 (Option.some Jvm.ClassFile.FieldType.int) 0 0 0 [.ref o, .int v] [bO t 4 (tF (lad 0) ad (d 0) (d 9) (d 5) (d 6) (d 7) (d 1) (d 8)), bI g (ad 1) 10 (col d 0), bI g (ad 2) 10 (col d 1), bI g (ad 3) 10 (col d 2), bI g (ad 4) 10 (col d 3), bI g (ad 5) 10 (col d 4), bI g (ad 6) 3 (rulF d), bI g (ad 7) 3 cn, bO o 6 (cF (lad 0) t t3 t2 ch kp tp wt)] (QI g (fun r (_ : Unit) => r = d 8) (fun _ => [bO t 4 (tF (lad 0) ad ((upd d 8 v) 0) ((upd d 8 v) 9) ((upd d 8 v) 5) ((upd d 8 v) 6) ((upd d 8 v) 7) ((upd d 8 v) 1) ((upd d 8 v) 8)), bI g (ad 1) 10 (col (upd d 8 v) 0), bI g (ad 2) 10 (col (upd d 8 v) 1), bI g (ad 3) 10 (col (upd d 8 v) 2), bI g (ad 4) 10 (col (upd d 8 v) 3), bI g (ad 5) 10 (col (upd d 8 v) 4), bI g (ad 6) 3 (rulF (upd d 8 v)), bI g (ad 7) 3 cn, bO o 6 (cF (lad 0) t t3 t2 ch kp tp wt)])) := by
  refine Ct.of (by decide) rfl ?_
  intro p e s m args below meth c A H locs ls Qf cf hr hlk hnm hQ hw hl
  have hx := cf.1
  have hb := cf.2.1
  have hml := cf.2.2.1
  have hown := cf.2.2.2.1
  have hts := cf.2.2.2.2
  have hw : WD g A s H locs [bO t 4 (tF (lad 0) ad (d 0) (d 9) (d 5) (d 6) (d 7) (d 1) (d 8)), bI g (ad 1) 10 (col d 0), bI g (ad 2) 10 (col d 1), bI g (ad 3) 10 (col d 2), bI g (ad 4) 10 (col d 3), bI g (ad 5) 10 (col d 4), bI g (ad 6) 3 (rulF d), bI g (ad 7) 3 cn, bO o 6 (cF (lad 0) t t3 t2 ch kp tp wt)] := hw
  have hl : lv_has ls 3 [(0, .ref o), (1, .int v)] := hl
  refine lv_aload_n hx hb dX6_seed_0 rfl (lv_at hl 0 rfl) ?_
  refine s_get (v := .ref t) fb6 cf hw 8 rfl 1 rfl q307 rfl dX6_seed_1 ?_
  refine s_getN (v := .int (d 8)) fb4 cf hw 0 rfl 14 rfl q185 rfl dX6_seed_4 ?_
  refine lv_istore_n (lv' := [(2, .int (d 8)), (0, .ref o), (1, .int v)]) hx hb dX6_seed_7 rfl hl (by decide) rfl (fun ls hl => ?_)
  refine lv_aload_n hx hb dX6_seed_8 rfl (lv_at hl 1 rfl) ?_
  refine s_get (v := .ref t) fb6 cf hw 8 rfl 1 rfl q307 rfl dX6_seed_9 ?_
  refine lv_iload_n hx hb dX6_seed_12 rfl (lv_at hl 2 rfl) ?_
  refine s_putN (v := .int v) fb4 cf hw 0 rfl 14 rfl q185 rfl rfl rfl rfl dX6_seed_13 (fun H locs hw => ?_)
  have hw : WD g A s H locs [bO t 4 (tF (lad 0) ad (d 0) (d 9) (d 5) (d 6) (d 7) (d 1) v), bI g (ad 1) 10 (col d 0), bI g (ad 2) 10 (col d 1), bI g (ad 3) 10 (col d 2), bI g (ad 4) 10 (col d 3), bI g (ad 5) 10 (col d 4), bI g (ad 6) 3 (rulF d), bI g (ad 7) 3 cn, bO o 6 (cF (lad 0) t t3 t2 ch kp tp wt)] := hw
  refine lv_iload_n hx hb dX6_seed_16 rfl (lv_at hl 0 rfl) ?_
  exact s_iret cf hr hlk () (tw_wd (rest := [bO o 6 (cF (lad 0) t t3 t2 ch kp tp wt)]) (e := upd d 8 v) (tw_lo (by omega) (by omega)) hw) rfl (Nat.le_of_ble_eq_true rfl) (Nat.le_of_ble_eq_true rfl) dX6_seed_17 hQ
set_option maxRecDepth 100000 in
set_option maxHeartbeats 4000000 in
theorem c_round {l : Launch} {g : GG} {t : Nat} {lad ad : Nat → Nat} {d cn : DD} {nm st_ : DD} {tr : Nat → Option Nat} {txb : va_W} {ft : TXC} (hF : FitAt g tr txb (cn 0) ft) (hFo : okF ft) (hI : InvH d) {o t2 t3 : Nat} {ch : Nat → Nat} {kp tp wt : Int32} : Ct l g yX6_round cX6_round 1 (Option.some Jvm.ClassFile.FieldType.int) 5 0 0 [.ref o] [bO t 4 (tF (lad 0) ad (d 0) (d 9) (d 5) (d 6) (d 7) (d 1) (d 8)), bI g (ad 1) 10 (col d 0), bI g (ad 2) 10 (col d 1), bI g (ad 3) 10 (col d 2), bI g (ad 4) 10 (col d 3), bI g (ad 5) 10 (col d 4), bI g (ad 6) 3 (rulF d), bI g (ad 7) 3 cn, bO (lad 0) 0 ([.ref (lad 1), .ref (lad 2), .ref (lad 3)]), bR g 4 (lad 1) 14 tr, bI g (lad 2) 6 nm, bI g (lad 3) 96 st_, txb, bO o 6 (cF (lad 0) t t3 t2 ch kp tp wt)] (QI g (fun r (_ : DD × DD) => r = roundF ft d 5) (fun u => [bO t 4 (tF (lad 0) ad ((roundF ft d) 0) ((roundF ft d) 9) ((roundF ft d) 5) ((roundF ft d) 6) ((roundF ft d) 7) ((roundF ft d) 1) ((roundF ft d) 8)), bI g (ad 1) 10 (col (roundF ft d) 0), bI g (ad 2) 10 (col (roundF ft d) 1), bI g (ad 3) 10 (col (roundF ft d) 2), bI g (ad 4) 10 (col (roundF ft d) 3), bI g (ad 5) 10 (col (roundF ft d) 4), bI g (ad 6) 3 (rulF (roundF ft d)), bI g (ad 7) 3 cn, bO (lad 0) 0 ([.ref (lad 1), .ref (lad 2), .ref (lad 3)]), bR g 4 (lad 1) 14 tr, bI g (lad 2) 6 u.1, bI g (lad 3) 96 u.2, txb, bO o 6 (cF (lad 0) t t3 t2 ch kp tp wt)])) := by
  refine Ct.of (by decide) rfl ?_
  intro p e s m args below meth c A H locs ls Qf cf hr hlk hnm hQ hw hl
  have hx := cf.1
  have hb := cf.2.1
  have hml := cf.2.2.1
  have hown := cf.2.2.2.1
  have hts := cf.2.2.2.2
  have hw : WD g A s H locs [bO t 4 (tF (lad 0) ad (d 0) (d 9) (d 5) (d 6) (d 7) (d 1) (d 8)), bI g (ad 1) 10 (col d 0), bI g (ad 2) 10 (col d 1), bI g (ad 3) 10 (col d 2), bI g (ad 4) 10 (col d 3), bI g (ad 5) 10 (col d 4), bI g (ad 6) 3 (rulF d), bI g (ad 7) 3 cn, bO (lad 0) 0 ([.ref (lad 1), .ref (lad 2), .ref (lad 3)]), bR g 4 (lad 1) 14 tr, bI g (lad 2) 6 nm, bI g (lad 3) 96 st_, txb, bO o 6 (cF (lad 0) t t3 t2 ch kp tp wt)] := hw
  have hl : lv_has ls 1 [(0, .ref o)] := hl
  refine lv_aload_n hx hb dX6_round_0 rfl (lv_at hl 0 rfl) ?_
  refine s_get (v := .ref t) fb6 cf hw 13 rfl 1 rfl q307 rfl dX6_round_1 ?_
  refine s_callv (runVN cf (x_clank (t := t) (lad := lad) (ad := ad) (d := d) (cn := cn) (nm := nm) (st_ := st_) (tr := tr) (txb := txb) (ft := ft) hF hFo hI) hw [0, 1, 2, 3, 4, 5, 6, 7, 8, 9, 10, 11, 12] (by decide) rfl km_X4_clank ki_X4_clank q481 (run_recv (ci := 4) (T := TX4) (N := 15) hw 0 rfl rfl) rfl rfl hl.1 rfl dX6_round_4) hw [0, 1, 2, 3, 4, 5, 6, 7, 8, 9, 10, 11, 12] (by decide) rfl (fun _ => rfl) (fun u_1 H locs hp_2 hw => ?_)
  have hw : WD g A s H locs [bO t 4 (tF (lad 0) ad ((roundF ft d) 0) ((roundF ft d) 9) ((roundF ft d) 5) ((roundF ft d) 6) ((roundF ft d) 7) ((roundF ft d) 1) ((roundF ft d) 8)), bI g (ad 1) 10 (col (roundF ft d) 0), bI g (ad 2) 10 (col (roundF ft d) 1), bI g (ad 3) 10 (col (roundF ft d) 2), bI g (ad 4) 10 (col (roundF ft d) 3), bI g (ad 5) 10 (col (roundF ft d) 4), bI g (ad 6) 3 (rulF (roundF ft d)), bI g (ad 7) 3 cn, bO (lad 0) 0 ([.ref (lad 1), .ref (lad 2), .ref (lad 3)]), bR g 4 (lad 1) 14 tr, bI g (lad 2) 6 u_1.1, bI g (lad 3) 96 u_1.2, txb, bO o 6 (cF (lad 0) t t3 t2 ch kp tp wt)] := hw
  refine lv_aload_n hx hb dX6_round_7 rfl (lv_at hl 0 rfl) ?_
  refine s_get (v := .ref t) fb6 cf hw 13 rfl 1 rfl q307 rfl dX6_round_8 ?_
  refine s_getN (v := .int ((roundF ft d) 5)) fb4 cf hw 0 rfl 10 rfl q178 rfl dX6_round_11 ?_
  exact s_iret cf hr hlk (u_1.1, u_1.2) hw rfl (Nat.le_of_ble_eq_true rfl) (Nat.le_of_ble_eq_true rfl) dX6_round_14 hQ
set_option maxRecDepth 100000 in
set_option maxHeartbeats 4000000 in
theorem c_load {l : Launch} {g : GG} {t : Nat} {lad ad : Nat → Nat} {d cn : DD} {nm st_ : DD} {tr : Nat → Option Nat} {txb : va_W} {ft : TXC} (hF : FitAt g tr txb (cn 0) ft) (hFo : okF ft) (hI : InvH d) {n : Nat} (hn : d 0 = nI n) (hn10 : n ≤ 10) {o t2 t3 : Nat} {ch : Nat → Nat} {kp tp wt : Int32} (x : Int32) : Ct l g yX6_load cX6_load 2 (Option.some Jvm.ClassFile.FieldType.int) 5 0 0 [.ref o, .int x] [bO t 4 (tF (lad 0) ad (d 0) (d 9) (d 5) (d 6) (d 7) (d 1) (d 8)), bI g (ad 1) 10 (col d 0), bI g (ad 2) 10 (col d 1), bI g (ad 3) 10 (col d 2), bI g (ad 4) 10 (col d 3), bI g (ad 5) 10 (col d 4), bI g (ad 6) 3 (rulF d), bI g (ad 7) 3 cn, bO (lad 0) 0 ([.ref (lad 1), .ref (lad 2), .ref (lad 3)]), bR g 4 (lad 1) 14 tr, bI g (lad 2) 6 nm, bI g (lad 3) 96 st_, txb, bO o 6 (cF (lad 0) t t3 t2 ch kp tp wt)] (QI g (fun r (_ : DD × DD) => r = R_load ft d x) (fun u => [bO t 4 (tF (lad 0) ad ((D_load ft d x) 0) ((D_load ft d x) 9) ((D_load ft d x) 5) ((D_load ft d x) 6) ((D_load ft d x) 7) ((D_load ft d x) 1) ((D_load ft d x) 8)), bI g (ad 1) 10 (col (D_load ft d x) 0), bI g (ad 2) 10 (col (D_load ft d x) 1), bI g (ad 3) 10 (col (D_load ft d x) 2), bI g (ad 4) 10 (col (D_load ft d x) 3), bI g (ad 5) 10 (col (D_load ft d x) 4), bI g (ad 6) 3 (rulF (D_load ft d x)), bI g (ad 7) 3 cn, bO (lad 0) 0 ([.ref (lad 1), .ref (lad 2), .ref (lad 3)]), bR g 4 (lad 1) 14 tr, bI g (lad 2) 6 u.1, bI g (lad 3) 96 u.2, txb, bO o 6 (cF (lad 0) t t3 t2 ch kp tp wt)])) := by
  refine Ct.of (by decide) rfl ?_
  intro p e s m args below meth c A H locs ls Qf cf hr hlk hnm hQ hw hl
  have hx := cf.1
  have hb := cf.2.1
  have hml := cf.2.2.1
  have hown := cf.2.2.2.1
  have hts := cf.2.2.2.2
  have hw : WD g A s H locs [bO t 4 (tF (lad 0) ad (d 0) (d 9) (d 5) (d 6) (d 7) (d 1) (d 8)), bI g (ad 1) 10 (col d 0), bI g (ad 2) 10 (col d 1), bI g (ad 3) 10 (col d 2), bI g (ad 4) 10 (col d 3), bI g (ad 5) 10 (col d 4), bI g (ad 6) 3 (rulF d), bI g (ad 7) 3 cn, bO (lad 0) 0 ([.ref (lad 1), .ref (lad 2), .ref (lad 3)]), bR g 4 (lad 1) 14 tr, bI g (lad 2) 6 nm, bI g (lad 3) 96 st_, txb, bO o 6 (cF (lad 0) t t3 t2 ch kp tp wt)] := hw
  have hl : lv_has ls 2 [(0, .ref o), (1, .int x)] := hl
  refine lv_aload_n hx hb dX6_load_0 rfl (lv_at hl 0 rfl) ?_
  refine s_get (v := .ref t) fb6 cf hw 13 rfl 1 rfl q307 rfl dX6_load_1 ?_
  refine lv_iload_n hx hb dX6_load_4 rfl (lv_at hl 1 rfl) ?_
  refine s_calli (runVN cf (x_has (cn := cn) (t := t) (lad := lad) (ad := ad) (d := d) (n := n) hn hn10 x) hw [0] (by decide) rfl km_X4_has ki_X4_has q367 (run_recv (ci := 4) (T := TX4) (N := 15) hw 0 rfl rfl) rfl rfl hl.1 rfl dX6_load_5) hw [0] (by decide) rfl (fun _ => rfl) (fun r_3 u_1 H locs hp_2 hw => ?_)
  have hw : WD g A s H locs [bO t 4 (tF (lad 0) ad (d 0) (d 9) (d 5) (d 6) (d 7) (d 1) (d 8)), bI g (ad 1) 10 (col d 0), bI g (ad 2) 10 (col d 1), bI g (ad 3) 10 (col d 2), bI g (ad 4) 10 (col d 3), bI g (ad 5) 10 (col d 4), bI g (ad 6) 3 (rulF d), bI g (ad 7) 3 cn, bO (lad 0) 0 ([.ref (lad 1), .ref (lad 2), .ref (lad 3)]), bR g 4 (lad 1) 14 tr, bI g (lad 2) 6 nm, bI g (lad 3) 96 st_, txb, bO o 6 (cF (lad 0) t t3 t2 ch kp tp wt)] := hw
  subst hp_2
  refine lv_if_eq (tgt := 22) hx hb dX6_load_8 (by decide) (fun c8 => ?_) (fun c8 => ?_)
  · have c8 := b01_z c8
    refine lv_ldc hx hb hown (hts _ q356) dX6_load_22 ?_
    exact s_iret cf hr hlk (nm, st_) (by have q : D_load ft d x = d := (by unfold D_load; rw [if_neg c8]); rw [q]; exact hw) (by unfold R_load; rw [if_neg c8]) (Nat.le_of_ble_eq_true rfl) (Nat.le_of_ble_eq_true rfl) dX6_load_24 hQ
  · have c8 := b01_n c8
    obtain ⟨j, hjn, hxj, hcl⟩ := isH_nat hn hn10 c8
    subst hxj
    refine lv_aload_n hx hb dX6_load_11 rfl (lv_at hl 0 rfl) ?_
    refine s_get (v := .ref t) fb6 cf hw 13 rfl 1 rfl q307 rfl dX6_load_12 ?_
    refine lv_iload_n hx hb dX6_load_15 rfl (lv_at hl 1 rfl) ?_
    refine s_calli (runVN cf (x_deliver (t := t) (lad := lad) (ad := ad) (d := d) (cn := cn) (nm := nm) (st_ := st_) (tr := tr) (txb := txb) (ft := ft) hF hFo hI j (by omega)) hw [0, 1, 2, 3, 4, 5, 6, 7, 8, 9, 10, 11, 12] (by decide) rfl km_X4_deliver ki_X4_deliver q491 (run_recv (ci := 4) (T := TX4) (N := 15) hw 0 rfl rfl) rfl rfl hl.1 rfl dX6_load_16) hw [0, 1, 2, 3, 4, 5, 6, 7, 8, 9, 10, 11, 12] (by decide) rfl (fun _ => rfl) (fun r_6 u_4 H locs hp_5 hw => ?_)
    have hw : WD g A s H locs [bO t 4 (tF (lad 0) ad ((deliverF ft d j) 0) ((deliverF ft d j) 9) ((deliverF ft d j) 5) ((deliverF ft d j) 6) ((deliverF ft d j) 7) ((deliverF ft d j) 1) ((deliverF ft d j) 8)), bI g (ad 1) 10 (col (deliverF ft d j) 0), bI g (ad 2) 10 (col (deliverF ft d j) 1), bI g (ad 3) 10 (col (deliverF ft d j) 2), bI g (ad 4) 10 (col (deliverF ft d j) 3), bI g (ad 5) 10 (col (deliverF ft d j) 4), bI g (ad 6) 3 (rulF (deliverF ft d j)), bI g (ad 7) 3 cn, bO (lad 0) 0 ([.ref (lad 1), .ref (lad 2), .ref (lad 3)]), bR g 4 (lad 1) 14 tr, bI g (lad 2) 6 u_4.1, bI g (lad 3) 96 u_4.2, txb, bO o 6 (cF (lad 0) t t3 t2 ch kp tp wt)] := hw
    subst hp_5
    refine lv_goto (tgt := 24) hx hb dX6_load_19 (by decide) ?_
    exact s_iret cf hr hlk (u_4.1, u_4.2) (by have q : D_load ft d (nI j) = deliverF ft d j := (by unfold D_load; rw [if_pos c8, hcl]); rw [q]; exact hw) (by unfold R_load; rw [if_pos c8, hcl]) (Nat.le_of_ble_eq_true rfl) (Nat.le_of_ble_eq_true rfl) dX6_load_24 hQ
