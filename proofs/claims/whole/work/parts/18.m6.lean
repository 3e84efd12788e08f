set_option maxRecDepth 100000 in
set_option maxHeartbeats 4000000 in
theorem m_house {l : Launch} {g : GG} {a : Nat} {ad : Nat → Nat} {fs : List Value} (hf : MF ad fs) {d : DD} {n : Nat} (hn : d 0 = nI n) (hn10 : n ≤ 10) (k st p_ c_ : Int32) : Ct l g yX7_house cX7_house 6 (Option.some Jvm.ClassFile.FieldType.int) 1 0 0 [.ref a, .int k, .int st, .int p_, .int c_] [bO a 7 fs, bI g (ad 0) 60 d] (QI g (fun r (_ : Unit) => r = R_house d k st p_ c_) (fun _ => [bO a 7 fs, bI g (ad 0) 60 (D_house d k st p_ c_)])) := by
  refine Ct.of (by decide) rfl ?_
  intro p e s m args below meth c A H locs ls Qf cf hr hlk hnm hQ hw hl
  have hx := cf.1
  have hb := cf.2.1
  have hml := cf.2.2.1
  have hown := cf.2.2.2.1
  have hts := cf.2.2.2.2
  have hw : WD g A s H locs [bO a 7 fs, bI g (ad 0) 60 d] := hw
  have hl : lv_has ls 6 [(0, .ref a), (1, .int k), (2, .int st), (3, .int p_), (4, .int c_)] := hl
  refine lv_iload_n hx hb dX7_house_0 rfl (lv_at hl 1 rfl) ?_
  refine lv_i2l (v := (k : Int32).toInt64) hx hb dX7_house_1 rfl ?_
  refine lv_lconst (v := (0 : Int32).toInt64) hx hb dX7_house_2 (by decide) ?_
  refine lv_ldc2 hx hb hown (hts _ q1044) dX7_house_3 ?_
  refine lv_toplr (y := (5 : Int32).toInt64) (by decide) ?_
  refine s_calli (runS cf (m_in (k : Int32) (0 : Int32) (5 : Int32)) hw [] (by decide) rfl km_X7_in ks_X7_in q1045 rfl rfl hl.1 rfl dX7_house_6) hw [] (by decide) rfl (fun _ => rfl) (fun r_3 u_1 H locs hp_2 hw => ?_)
  have hw : WD g A s H locs [bO a 7 fs, bI g (ad 0) 60 d] := hw
  subst hp_2
  refine lv_if_eq (tgt := 49) hx hb dX7_house_9 (by decide) (fun c9 => ?_) (fun c9 => ?_)
  · have c9 := b01_z c9
    refine lv_ldc hx hb hown (hts _ q1049) dX7_house_49 ?_
    exact s_iret cf hr hlk () (by have q : D_house d k st p_ c_ = d := (by unfold D_house; rw [if_neg (by grind)]); rw [q]; exact hw) (by unfold R_house; rw [if_neg (by grind)]) (Nat.le_of_ble_eq_true rfl) (Nat.le_of_ble_eq_true rfl) dX7_house_51 hQ
  · have c9 := b01_n c9
    refine lv_iload_n hx hb dX7_house_12 rfl (lv_at hl 2 rfl) ?_
    refine lv_i2l (v := (st : Int32).toInt64) hx hb dX7_house_13 rfl ?_
    refine lv_lconst (v := (0 : Int32).toInt64) hx hb dX7_house_14 (by decide) ?_
    refine lv_ldc2 hx hb hown (hts _ q1048) dX7_house_15 ?_
    refine lv_toplr (y := (99 : Int32).toInt64) (by decide) ?_
    refine s_calli (runS cf (m_in (st : Int32) (0 : Int32) (99 : Int32)) hw [] (by decide) rfl km_X7_in ks_X7_in q1045 rfl rfl hl.1 rfl dX7_house_18) hw [] (by decide) rfl (fun _ => rfl) (fun r_6 u_4 H locs hp_5 hw => ?_)
    have hw : WD g A s H locs [bO a 7 fs, bI g (ad 0) 60 d] := hw
    subst hp_5
    refine lv_if_eq (tgt := 49) hx hb dX7_house_21 (by decide) (fun c21 => ?_) (fun c21 => ?_)
    · have c21 := b01_z c21
      refine lv_ldc hx hb hown (hts _ q1049) dX7_house_49 ?_
      exact s_iret cf hr hlk () (by have q : D_house d k st p_ c_ = d := (by unfold D_house; rw [if_neg (by grind)]); rw [q]; exact hw) (by unfold R_house; rw [if_neg (by grind)]) (Nat.le_of_ble_eq_true rfl) (Nat.le_of_ble_eq_true rfl) dX7_house_51 hQ
    · have c21 := b01_n c21
      refine lv_iload_n hx hb dX7_house_24 rfl (lv_at hl 3 rfl) ?_
      refine lv_i2l (v := (p_ : Int32).toInt64) hx hb dX7_house_25 rfl ?_
      refine lv_lconst (v := (0 : Int32).toInt64) hx hb dX7_house_26 (by decide) ?_
      refine lv_ldc2 hx hb hown (hts _ q1048) dX7_house_27 ?_
      refine lv_toplr (y := (99 : Int32).toInt64) (by decide) ?_
      refine s_calli (runS cf (m_in (p_ : Int32) (0 : Int32) (99 : Int32)) hw [] (by decide) rfl km_X7_in ks_X7_in q1045 rfl rfl hl.1 rfl dX7_house_30) hw [] (by decide) rfl (fun _ => rfl) (fun r_9 u_7 H locs hp_8 hw => ?_)
      have hw : WD g A s H locs [bO a 7 fs, bI g (ad 0) 60 d] := hw
      subst hp_8
      refine lv_if_eq (tgt := 49) hx hb dX7_house_33 (by decide) (fun c33 => ?_) (fun c33 => ?_)
      · have c33 := b01_z c33
        refine lv_ldc hx hb hown (hts _ q1049) dX7_house_49 ?_
        exact s_iret cf hr hlk () (by have q : D_house d k st p_ c_ = d := (by unfold D_house; rw [if_neg (by grind)]); rw [q]; exact hw) (by unfold R_house; rw [if_neg (by grind)]) (Nat.le_of_ble_eq_true rfl) (Nat.le_of_ble_eq_true rfl) dX7_house_51 hQ
      · have c33 := b01_n c33
        refine lv_iload hx hb dX7_house_36 (lv_at hl 4 rfl) ?_
        refine lv_i2l (v := (c_ : Int32).toInt64) hx hb dX7_house_38 rfl ?_
        refine lv_lconst (v := (0 : Int32).toInt64) hx hb dX7_house_39 (by decide) ?_
        refine lv_ldc2 hx hb hown (hts _ q1048) dX7_house_40 ?_
        refine lv_toplr (y := (99 : Int32).toInt64) (by decide) ?_
        refine s_calli (runS cf (m_in (c_ : Int32) (0 : Int32) (99 : Int32)) hw [] (by decide) rfl km_X7_in ks_X7_in q1045 rfl rfl hl.1 rfl dX7_house_43) hw [] (by decide) rfl (fun _ => rfl) (fun r_12 u_10 H locs hp_11 hw => ?_)
        have hw : WD g A s H locs [bO a 7 fs, bI g (ad 0) 60 d] := hw
        subst hp_11
        refine lv_if_ne (tgt := 52) hx hb dX7_house_46 (by decide) (fun c46 => ?_) (fun c46 => ?_)
        · have c46 := b01_n c46
          refine lv_aload_n hx hb dX7_house_52 rfl (lv_at hl 0 rfl) ?_
          refine s_get (v := .ref (ad 0)) fb7 cf hw 0 rfl 0 rfl q921 (hf.2 0 rfl) dX7_house_53 ?_
          refine lv_iconst (v := 0) hx hb dX7_house_56 (by decide) ?_
          refine s_iald (j := 0) cf hw 1 rfl (rfl) (by decide) rfl dX7_house_57 ?_
          refine lv_bipush (v := 10) hx hb dX7_house_58 (by decide) ?_
          refine lv_icmp_ne (tgt := 66) hx hb dX7_house_60 (by decide) (fun c60 => ?_) (fun c60 => ?_)
          · have hn9 : n < 10 := by rcases Nat.lt_or_ge n 10 with q | q; exact q; exact absurd (by rw [hn, show n = 10 by omega]; rfl) c60
            have hnn := nH_of hn hn10
            refine lv_aload_n hx hb dX7_house_66 rfl (lv_at hl 0 rfl) ?_
            refine s_get (v := .ref (ad 0)) fb7 cf hw 0 rfl 0 rfl q921 (hf.2 0 rfl) dX7_house_67 ?_
            refine lv_iconst (v := 0) hx hb dX7_house_70 (by decide) ?_
            refine s_iald (j := 0) cf hw 1 rfl (rfl) (by decide) rfl dX7_house_71 ?_
            refine lv_topr (y := nI n) (hn) ?_
            refine lv_istore (lv' := [(5, .int (nI n)), (0, .ref a), (1, .int k), (2, .int st), (3, .int p_), (4, .int c_)]) hx hb dX7_house_72 hl (by decide) rfl (fun ls hl => ?_)
            refine lv_aload_n hx hb dX7_house_74 rfl (lv_at hl 1 rfl) ?_
            refine lv_iload hx hb dX7_house_75 (lv_at hl 0 rfl) ?_
            refine lv_iconst (v := 0) hx hb dX7_house_77 (by decide) ?_
            refine lv_iload_n hx hb dX7_house_78 rfl (lv_at hl 2 rfl) ?_
            refine s_callv (runV cf (m_sets (d := d) hf n 0 k (by omega)) hw [0, 1] (by decide) rfl km_X7_sets ki_X7_sets q1051 (run_recv (ci := 7) (T := TX7) (N := 39) hw 0 rfl rfl) rfl rfl hl.1 rfl dX7_house_79) hw [0, 1] (by decide) rfl (fun _ => rfl) (fun u_13 H locs hp_14 hw => ?_)
            have hw : WD g A s H locs [bO a 7 fs, bI g (ad 0) 60 (upd d (10 + 5 * n + 0) k)] := hw
            refine lv_aload_n hx hb dX7_house_82 rfl (lv_at hl 1 rfl) ?_
            refine lv_iload hx hb dX7_house_83 (lv_at hl 0 rfl) ?_
            refine lv_iconst (v := 1) hx hb dX7_house_85 (by decide) ?_
            refine lv_iload_n hx hb dX7_house_86 rfl (lv_at hl 3 rfl) ?_
            refine s_callv (runV cf (m_sets (d := upd d (10 + 5 * n + 0) k) hf n 1 st (by omega)) hw [0, 1] (by decide) rfl km_X7_sets ki_X7_sets q1051 (run_recv (ci := 7) (T := TX7) (N := 39) hw 0 rfl rfl) rfl rfl hl.1 rfl dX7_house_87) hw [0, 1] (by decide) rfl (fun _ => rfl) (fun u_15 H locs hp_16 hw => ?_)
            have hw : WD g A s H locs [bO a 7 fs, bI g (ad 0) 60 (upd (upd d (10 + 5 * n + 0) k) (10 + 5 * n + 1) st)] := hw
            refine lv_aload_n hx hb dX7_house_90 rfl (lv_at hl 1 rfl) ?_
            refine lv_iload hx hb dX7_house_91 (lv_at hl 0 rfl) ?_
            refine lv_iconst (v := 2) hx hb dX7_house_93 (by decide) ?_
            refine lv_iload_n hx hb dX7_house_94 rfl (lv_at hl 4 rfl) ?_
            refine s_callv (runV cf (m_sets (d := upd (upd d (10 + 5 * n + 0) k) (10 + 5 * n + 1) st) hf n 2 p_ (by omega)) hw [0, 1] (by decide) rfl km_X7_sets ki_X7_sets q1051 (run_recv (ci := 7) (T := TX7) (N := 39) hw 0 rfl rfl) rfl rfl hl.1 rfl dX7_house_95) hw [0, 1] (by decide) rfl (fun _ => rfl) (fun u_17 H locs hp_18 hw => ?_)
            have hw : WD g A s H locs [bO a 7 fs, bI g (ad 0) 60 (upd (upd (upd d (10 + 5 * n + 0) k) (10 + 5 * n + 1) st) (10 + 5 * n + 2) p_)] := hw
            refine lv_aload_n hx hb dX7_house_98 rfl (lv_at hl 1 rfl) ?_
            refine lv_iload hx hb dX7_house_99 (lv_at hl 0 rfl) ?_
            refine lv_iconst (v := 3) hx hb dX7_house_101 (by decide) ?_
            refine lv_iload hx hb dX7_house_102 (lv_at hl 5 rfl) ?_
            refine s_callv (runV cf (m_sets (d := upd (upd (upd d (10 + 5 * n + 0) k) (10 + 5 * n + 1) st) (10 + 5 * n + 2) p_) hf n 3 c_ (by omega)) hw [0, 1] (by decide) rfl km_X7_sets ki_X7_sets q1051 (run_recv (ci := 7) (T := TX7) (N := 39) hw 0 rfl rfl) rfl rfl hl.1 rfl dX7_house_104) hw [0, 1] (by decide) rfl (fun _ => rfl) (fun u_19 H locs hp_20 hw => ?_)
            have hw : WD g A s H locs [bO a 7 fs, bI g (ad 0) 60 (upd (upd (upd (upd d (10 + 5 * n + 0) k) (10 + 5 * n + 1) st) (10 + 5 * n + 2) p_) (10 + 5 * n + 3) c_)] := hw
            refine lv_aload_n hx hb dX7_house_107 rfl (lv_at hl 1 rfl) ?_
            refine lv_iload hx hb dX7_house_108 (lv_at hl 0 rfl) ?_
            refine lv_iconst (v := 4) hx hb dX7_house_110 (by decide) ?_
            refine lv_iconst (v := 0) hx hb dX7_house_111 (by decide) ?_
            refine s_callv (runV cf (m_sets (d := upd (upd (upd (upd d (10 + 5 * n + 0) k) (10 + 5 * n + 1) st) (10 + 5 * n + 2) p_) (10 + 5 * n + 3) c_) hf n 4 0 (by omega)) hw [0, 1] (by decide) rfl km_X7_sets ki_X7_sets q1051 (run_recv (ci := 7) (T := TX7) (N := 39) hw 0 rfl rfl) rfl rfl hl.1 rfl dX7_house_112) hw [0, 1] (by decide) rfl (fun _ => rfl) (fun u_21 H locs hp_22 hw => ?_)
            have hw : WD g A s H locs [bO a 7 fs, bI g (ad 0) 60 (upd (upd (upd (upd (upd d (10 + 5 * n + 0) k) (10 + 5 * n + 1) st) (10 + 5 * n + 2) p_) (10 + 5 * n + 3) c_) (10 + 5 * n + 4) 0)] := hw
            refine lv_aload_n hx hb dX7_house_115 rfl (lv_at hl 1 rfl) ?_
            refine s_get (v := .ref (ad 0)) fb7 cf hw 0 rfl 0 rfl q921 (hf.2 0 rfl) dX7_house_116 ?_
            refine lv_iconst (v := 0) hx hb dX7_house_119 (by decide) ?_
            refine lv_dup2_11 hx hb dX7_house_120 rfl rfl ?_
            refine s_iald (j := 0) cf hw 1 rfl (rfl) (by decide) rfl dX7_house_121 ?_
            refine lv_iconst (v := 1) hx hb dX7_house_122 (by decide) ?_
            refine lv_iadd hx hb dX7_house_123 ?_
            refine s_iast (j := 0) cf hw 1 rfl (rfl) (by decide) rfl dX7_house_124 (fun H locs hw => ?_)
            have hw : WD g A s H locs [bO a 7 fs, bI g (ad 0) 60 (upd (upd (upd (upd (upd (upd d (10 + 5 * n + 0) k) (10 + 5 * n + 1) st) (10 + 5 * n + 2) p_) (10 + 5 * n + 3) c_) (10 + 5 * n + 4) 0) 0 (((upd (upd (upd (upd (upd d (10 + 5 * n + 0) k) (10 + 5 * n + 1) st) (10 + 5 * n + 2) p_) (10 + 5 * n + 3) c_) (10 + 5 * n + 4) 0) 0) + 1))] := hw
            refine lv_iload hx hb dX7_house_125 (lv_at hl 0 rfl) ?_
            exact s_iret cf hr hlk () (by have q : D_house d k st p_ c_ = upd (upd (upd (upd (upd (upd d (10 + 5 * n + 0) k) (10 + 5 * n + 1) st) (10 + 5 * n + 2) p_) (10 + 5 * n + 3) c_) (10 + 5 * n + 4) 0) 0 (((upd (upd (upd (upd (upd d (10 + 5 * n + 0) k) (10 + 5 * n + 1) st) (10 + 5 * n + 2) p_) (10 + 5 * n + 3) c_) (10 + 5 * n + 4) 0) 0) + 1) := (by unfold D_house; rw [if_pos ⟨⟨c9, c21, c33, c46⟩, c60⟩]; unfold buildF; rw [hnn, upd_ne (by omega), upd_ne (by omega), upd_ne (by omega), upd_ne (by omega), upd_ne (by omega)]); rw [q]; exact hw) (by unfold R_house; rw [if_pos ⟨c9, c21, c33, c46⟩, if_neg c60, hn]) (Nat.le_of_ble_eq_true rfl) (Nat.le_of_ble_eq_true rfl) dX7_house_127 hQ
          · refine lv_ldc hx hb hown (hts _ q1050) dX7_house_63 ?_
            exact s_iret cf hr hlk () (by have q : D_house d k st p_ c_ = d := (by unfold D_house; rw [if_neg (by grind)]); rw [q]; exact hw) (by unfold R_house; rw [if_pos ⟨c9, c21, c33, c46⟩, if_pos c60]) (Nat.le_of_ble_eq_true rfl) (Nat.le_of_ble_eq_true rfl) dX7_house_65 hQ
        · have c46 := b01_z c46
          refine lv_ldc hx hb hown (hts _ q1049) dX7_house_49 ?_
          exact s_iret cf hr hlk () (by have q : D_house d k st p_ c_ = d := (by unfold D_house; rw [if_neg (by grind)]); rw [q]; exact hw) (by unfold R_house; rw [if_neg (by grind)]) (Nat.le_of_ble_eq_true rfl) (Nat.le_of_ble_eq_true rfl) dX7_house_51 hQ
set_option maxRecDepth 100000 in
set_option maxHeartbeats 4000000 in
theorem m_told {l : Launch} {g : GG} {a : Nat} {ad : Nat → Nat} {fs : List Value} (hf : MF ad fs) {d cdf kf sf pl : DD} {ft : TXC} (hT : TxOK d kf sf cdf 0 ft) {n : Nat} (hn : d 0 = nI n) (hn10 : n ≤ 10) (x w : Int32) : Ct l g yX7_told cX7_told 3 (Option.some Jvm.ClassFile.FieldType.int) 4 0 0 [.ref a, .int x, .int w] [bO a 7 fs, bI g (ad 0) 60 d, bI g (ad 5) 1344 cdf, bI g (ad 6) 14 kf, bI g (ad 7) 14 sf, bI g (ad 9) 96 pl] (QI g (fun r (_ : DD) => r = R_told ft d x w) (fun u => [bO a 7 fs, bI g (ad 0) 60 d, bI g (ad 5) 1344 cdf, bI g (ad 6) 14 kf, bI g (ad 7) 14 sf, bI g (ad 9) 96 u])) := by
  refine Ct.of (by decide) rfl ?_
  intro p e s m args below meth c A H locs ls Qf cf hr hlk hnm hQ hw hl
  have hx := cf.1
  have hb := cf.2.1
  have hml := cf.2.2.1
  have hown := cf.2.2.2.1
  have hts := cf.2.2.2.2
  have hw : WD g A s H locs [bO a 7 fs, bI g (ad 0) 60 d, bI g (ad 5) 1344 cdf, bI g (ad 6) 14 kf, bI g (ad 7) 14 sf, bI g (ad 9) 96 pl] := hw
  have hl : lv_has ls 3 [(0, .ref a), (1, .int x), (2, .int w)] := hl
  refine lv_aload_n hx hb dX7_told_0 rfl (lv_at hl 0 rfl) ?_
  refine lv_iload_n hx hb dX7_told_1 rfl (lv_at hl 1 rfl) ?_
  refine s_calli (runV cf (m_isHouse (d := d) hf x) hw [0, 1] (by decide) rfl km_X7_isHouse ki_X7_isHouse q1059 (run_recv (ci := 7) (T := TX7) (N := 39) hw 0 rfl rfl) rfl rfl hl.1 rfl dX7_told_2) hw [0, 1] (by decide) rfl (fun _ => rfl) (fun r_3 u_1 H locs hp_2 hw => ?_)
  have hw : WD g A s H locs [bO a 7 fs, bI g (ad 0) 60 d, bI g (ad 5) 1344 cdf, bI g (ad 6) 14 kf, bI g (ad 7) 14 sf, bI g (ad 9) 96 pl] := hw
  subst hp_2
  refine lv_if_eq (tgt := 20) hx hb dX7_told_5 (by decide) (fun c5 => ?_) (fun c5 => ?_)
  · have c5 := b01_z c5
    refine lv_ldc hx hb hown (hts _ q1049) dX7_told_20 ?_
    exact s_iret cf hr hlk pl hw (by unfold R_told; rw [if_neg (by grind)]) (Nat.le_of_ble_eq_true rfl) (Nat.le_of_ble_eq_true rfl) dX7_told_22 hQ
  · have c5 := b01_n c5
    refine lv_iload_n hx hb dX7_told_8 rfl (lv_at hl 2 rfl) ?_
    refine lv_i2l (v := (w : Int32).toInt64) hx hb dX7_told_9 rfl ?_
    refine lv_lconst (v := (0 : Int32).toInt64) hx hb dX7_told_10 (by decide) ?_
    refine lv_ldc2 hx hb hown (hts _ q1063) dX7_told_11 ?_
    refine lv_toplr (y := (8 : Int32).toInt64) (by decide) ?_
    refine s_calli (runS cf (m_in (w : Int32) (0 : Int32) (8 : Int32)) hw [] (by decide) rfl km_X7_in ks_X7_in q1045 rfl rfl hl.1 rfl dX7_told_14) hw [] (by decide) rfl (fun _ => rfl) (fun r_6 u_4 H locs hp_5 hw => ?_)
    have hw : WD g A s H locs [bO a 7 fs, bI g (ad 0) 60 d, bI g (ad 5) 1344 cdf, bI g (ad 6) 14 kf, bI g (ad 7) 14 sf, bI g (ad 9) 96 pl] := hw
    subst hp_5
    refine lv_if_ne (tgt := 23) hx hb dX7_told_17 (by decide) (fun c17 => ?_) (fun c17 => ?_)
    · have c17 := b01_n c17
      obtain ⟨j, hjn, hxj, hcl⟩ := isH_nat hn hn10 c5
      subst hxj
      refine lv_iload_n hx hb dX7_told_23 rfl (lv_at hl 2 rfl) ?_
      by_cases t24_5 : w = 5
      · refine lv_tableIn (tgt := 56) (off := 32) hx hb dX7_told_24 (by rw [t24_5]; decide) (by rw [t24_5]; decide) (by rw [t24_5]; decide) (by decide) ?_
        refine lv_aload_n hx hb dX7_told_56 rfl (lv_at hl 0 rfl) ?_
        refine lv_iload_n hx hb dX7_told_57 rfl (lv_at hl 1 rfl) ?_
        refine s_calli (runV cf (m_slack (d := d) (cdf := cdf) (kf := kf) (sf := sf) (pl := pl) (ft := ft) hf hT j (by omega)) hw [0, 1, 2, 3, 4, 5] (by decide) rfl km_X7_slack ki_X7_slack q1064 (run_recv (ci := 7) (T := TX7) (N := 39) hw 0 rfl rfl) rfl rfl hl.1 rfl dX7_told_58) hw [0, 1, 2, 3, 4, 5] (by decide) rfl (fun _ => rfl) (fun r_9 u_7 H locs hp_8 hw => ?_)
        have hw : WD g A s H locs [bO a 7 fs, bI g (ad 0) 60 d, bI g (ad 5) 1344 cdf, bI g (ad 6) 14 kf, bI g (ad 7) 14 sf, bI g (ad 9) 96 u_7] := hw
        subst hp_8
        exact s_iret cf hr hlk u_7 hw (by unfold R_told; rw [if_pos ⟨c5, c17⟩, hcl]; unfold toldF; rw [if_pos t24_5]) (Nat.le_of_ble_eq_true rfl) (Nat.le_of_ble_eq_true rfl) dX7_told_61 hQ
      by_cases t24_6 : w = 6
      · refine lv_tableIn (tgt := 62) (off := 38) hx hb dX7_told_24 (by rw [t24_6]; decide) (by rw [t24_6]; decide) (by rw [t24_6]; decide) (by decide) ?_
        refine lv_aload_n hx hb dX7_told_62 rfl (lv_at hl 0 rfl) ?_
        refine lv_iload_n hx hb dX7_told_63 rfl (lv_at hl 1 rfl) ?_
        refine s_calli (runV cf (m_bends (d := d) hf j (by omega)) hw [0, 1] (by decide) rfl km_X7_bends ki_X7_bends q1096 (run_recv (ci := 7) (T := TX7) (N := 39) hw 0 rfl rfl) rfl rfl hl.1 rfl dX7_told_64) hw [0, 1] (by decide) rfl (fun _ => rfl) (fun r_12 u_10 H locs hp_11 hw => ?_)
        have hw : WD g A s H locs [bO a 7 fs, bI g (ad 0) 60 d, bI g (ad 5) 1344 cdf, bI g (ad 6) 14 kf, bI g (ad 7) 14 sf, bI g (ad 9) 96 pl] := hw
        subst hp_11
        exact s_iret cf hr hlk pl hw (by unfold R_told; rw [if_pos ⟨c5, c17⟩, hcl]; unfold toldF; rw [if_neg t24_5, if_pos t24_6]) (Nat.le_of_ble_eq_true rfl) (Nat.le_of_ble_eq_true rfl) dX7_told_67 hQ
      by_cases t24_7 : w = 7
      · refine lv_tableIn (tgt := 68) (off := 44) hx hb dX7_told_24 (by rw [t24_7]; decide) (by rw [t24_7]; decide) (by rw [t24_7]; decide) (by decide) ?_
        refine lv_aload_n hx hb dX7_told_68 rfl (lv_at hl 0 rfl) ?_
        refine lv_iload_n hx hb dX7_told_69 rfl (lv_at hl 1 rfl) ?_
        refine s_calli (runV cf (m_burns (d := d) hf j (by omega)) hw [0, 1] (by decide) rfl km_X7_burns ki_X7_burns q1100 (run_recv (ci := 7) (T := TX7) (N := 39) hw 0 rfl rfl) rfl rfl hl.1 rfl dX7_told_70) hw [0, 1] (by decide) rfl (fun _ => rfl) (fun r_15 u_13 H locs hp_14 hw => ?_)
        have hw : WD g A s H locs [bO a 7 fs, bI g (ad 0) 60 d, bI g (ad 5) 1344 cdf, bI g (ad 6) 14 kf, bI g (ad 7) 14 sf, bI g (ad 9) 96 pl] := hw
        subst hp_14
        exact s_iret cf hr hlk pl hw (by unfold R_told; rw [if_pos ⟨c5, c17⟩, hcl]; unfold toldF; rw [if_neg t24_5, if_neg t24_6, if_pos t24_7]) (Nat.le_of_ble_eq_true rfl) (Nat.le_of_ble_eq_true rfl) dX7_told_73 hQ
      by_cases t24_8 : w = 8
      · refine lv_tableIn (tgt := 74) (off := 50) hx hb dX7_told_24 (by rw [t24_8]; decide) (by rw [t24_8]; decide) (by rw [t24_8]; decide) (by decide) ?_
        refine lv_aload_n hx hb dX7_told_74 rfl (lv_at hl 0 rfl) ?_
        refine lv_iload_n hx hb dX7_told_75 rfl (lv_at hl 1 rfl) ?_
        refine lv_iconst (v := 0) hx hb dX7_told_76 (by decide) ?_
        refine s_calli (runV cf (m_of (d := d) hf j 0 (by omega)) hw [0, 1] (by decide) rfl km_X7_of ki_X7_of q1076 (run_recv (ci := 7) (T := TX7) (N := 39) hw 0 rfl rfl) rfl rfl hl.1 rfl dX7_told_77) hw [0, 1] (by decide) rfl (fun _ => rfl) (fun r_18 u_16 H locs hp_17 hw => ?_)
        have hw : WD g A s H locs [bO a 7 fs, bI g (ad 0) 60 d, bI g (ad 5) 1344 cdf, bI g (ad 6) 14 kf, bI g (ad 7) 14 sf, bI g (ad 9) 96 pl] := hw
        subst hp_17
        refine lv_aload_n hx hb dX7_told_80 rfl (lv_at hl 0 rfl) ?_
        refine lv_iload_n hx hb dX7_told_81 rfl (lv_at hl 1 rfl) ?_
        refine lv_iconst (v := 1) hx hb dX7_told_82 (by decide) ?_
        refine s_calli (runV cf (m_of (d := d) hf j 1 (by omega)) hw [0, 1] (by decide) rfl km_X7_of ki_X7_of q1076 (run_recv (ci := 7) (T := TX7) (N := 39) hw 0 rfl rfl) rfl rfl hl.1 rfl dX7_told_83) hw [0, 1] (by decide) rfl (fun _ => rfl) (fun r_21 u_19 H locs hp_20 hw => ?_)
        have hw : WD g A s H locs [bO a 7 fs, bI g (ad 0) 60 d, bI g (ad 5) 1344 cdf, bI g (ad 6) 14 kf, bI g (ad 7) 14 sf, bI g (ad 9) 96 pl] := hw
        subst hp_20
        refine lv_aload_n hx hb dX7_told_86 rfl (lv_at hl 0 rfl) ?_
        refine lv_iload_n hx hb dX7_told_87 rfl (lv_at hl 1 rfl) ?_
        refine lv_iconst (v := 3) hx hb dX7_told_88 (by decide) ?_
        refine s_calli (runV cf (m_of (d := d) hf j 3 (by omega)) hw [0, 1] (by decide) rfl km_X7_of ki_X7_of q1076 (run_recv (ci := 7) (T := TX7) (N := 39) hw 0 rfl rfl) rfl rfl hl.1 rfl dX7_told_89) hw [0, 1] (by decide) rfl (fun _ => rfl) (fun r_24 u_22 H locs hp_23 hw => ?_)
        have hw : WD g A s H locs [bO a 7 fs, bI g (ad 0) 60 d, bI g (ad 5) 1344 cdf, bI g (ad 6) 14 kf, bI g (ad 7) 14 sf, bI g (ad 9) 96 pl] := hw
        subst hp_23
        refine lv_aload_n hx hb dX7_told_92 rfl (lv_at hl 0 rfl) ?_
        refine lv_iload_n hx hb dX7_told_93 rfl (lv_at hl 1 rfl) ?_
        refine lv_iconst (v := 4) hx hb dX7_told_94 (by decide) ?_
        refine s_calli (runV cf (m_of (d := d) hf j 4 (by omega)) hw [0, 1] (by decide) rfl km_X7_of ki_X7_of q1076 (run_recv (ci := 7) (T := TX7) (N := 39) hw 0 rfl rfl) rfl rfl hl.1 rfl dX7_told_95) hw [0, 1] (by decide) rfl (fun _ => rfl) (fun r_27 u_25 H locs hp_26 hw => ?_)
        have hw : WD g A s H locs [bO a 7 fs, bI g (ad 0) 60 d, bI g (ad 5) 1344 cdf, bI g (ad 6) 14 kf, bI g (ad 7) 14 sf, bI g (ad 9) 96 pl] := hw
        subst hp_26
        refine s_calli (runS cf (m_worthOf (d (10 + 5 * j + 0)) (d (10 + 5 * j + 1)) (d (10 + 5 * j + 3)) (d (10 + 5 * j + 4))) hw [] (by decide) rfl km_X7_worthOf ks_X7_worthOf q1104 rfl rfl hl.1 rfl dX7_told_98) hw [] (by decide) rfl (fun _ => rfl) (fun r_30 u_28 H locs hp_29 hw => ?_)
        have hw : WD g A s H locs [bO a 7 fs, bI g (ad 0) 60 d, bI g (ad 5) 1344 cdf, bI g (ad 6) 14 kf, bI g (ad 7) 14 sf, bI g (ad 9) 96 pl] := hw
        subst hp_29
        exact s_iret cf hr hlk pl hw (by unfold R_told; rw [if_pos ⟨c5, c17⟩, hcl]; unfold toldF; rw [if_neg t24_5, if_neg t24_6, if_neg t24_7, if_pos t24_8]) (Nat.le_of_ble_eq_true rfl) (Nat.le_of_ble_eq_true rfl) dX7_told_101 hQ
      obtain ⟨wn, hwn, hww⟩ := rng_nat (m := 8) (by omega) c17.1 c17.2
      subst hww
      have hw4 : wn ≤ 4 := by have a5 : wn ≠ 5 := fun q => t24_5 (by rw [q]; rfl); have a6 : wn ≠ 6 := fun q => t24_6 (by rw [q]; rfl); have a7 : wn ≠ 7 := fun q => t24_7 (by rw [q]; rfl); have a8 : wn ≠ 8 := fun q => t24_8 (by rw [q]; rfl); omega
      refine lv_tableOut (tgt := 102) hx hb dX7_told_24 (by have e0 := lv_neT t24_5 (show (5 : Int32).toInt = 5 from rfl); have e1 := lv_neT t24_6 (show (6 : Int32).toInt = 6 from rfl); have e2 := lv_neT t24_7 (show (7 : Int32).toInt = 7 from rfl); have e3 := lv_neT t24_8 (show (8 : Int32).toInt = 8 from rfl); omega) (by decide) ?_
      refine lv_aload_n hx hb dX7_told_102 rfl (lv_at hl 0 rfl) ?_
      refine lv_iload_n hx hb dX7_told_103 rfl (lv_at hl 1 rfl) ?_
      refine lv_iload_n hx hb dX7_told_104 rfl (lv_at hl 2 rfl) ?_
      refine s_calli (runV cf (m_of (d := d) hf j wn (by omega)) hw [0, 1] (by decide) rfl km_X7_of ki_X7_of q1076 (run_recv (ci := 7) (T := TX7) (N := 39) hw 0 rfl rfl) rfl rfl hl.1 rfl dX7_told_105) hw [0, 1] (by decide) rfl (fun _ => rfl) (fun r_33 u_31 H locs hp_32 hw => ?_)
      have hw : WD g A s H locs [bO a 7 fs, bI g (ad 0) 60 d, bI g (ad 5) 1344 cdf, bI g (ad 6) 14 kf, bI g (ad 7) 14 sf, bI g (ad 9) 96 pl] := hw
      subst hp_32
      exact s_iret cf hr hlk pl hw (by unfold R_told; rw [if_pos ⟨c5, c17⟩, hcl]; unfold toldF; rw [if_neg t24_5, if_neg t24_6, if_neg t24_7, if_neg t24_8, nI_clamp (by omega)]) (Nat.le_of_ble_eq_true rfl) (Nat.le_of_ble_eq_true rfl) dX7_told_108 hQ
    · have c17 := b01_z c17
      refine lv_ldc hx hb hown (hts _ q1049) dX7_told_20 ?_
      exact s_iret cf hr hlk pl hw (by unfold R_told; rw [if_neg (by grind)]) (Nat.le_of_ble_eq_true rfl) (Nat.le_of_ble_eq_true rfl) dX7_told_22 hQ
set_option maxRecDepth 100000 in
set_option maxHeartbeats 4000000 in
theorem m_as {l : Launch} {g : GG} {a : Nat} {ad : Nat → Nat} {fs : List Value} (hf : MF ad fs) {d : DD} {n : Nat} (hn : d 0 = nI n) (hn10 : n ≤ 10) (x k : Int32) : Ct l g yX7_as cX7_as 3 (Option.some Jvm.ClassFile.FieldType.int) 2 0 0 [.ref a, .int x, .int k] [bO a 7 fs, bI g (ad 0) 60 d] (QI g (fun r (_ : Unit) => r = R_as d x k) (fun _ => [bO a 7 fs, bI g (ad 0) 60 d])) := by
  refine Ct.of (by decide) rfl ?_
  intro p e s m args below meth c A H locs ls Qf cf hr hlk hnm hQ hw hl
  have hx := cf.1
  have hb := cf.2.1
  have hml := cf.2.2.1
  have hown := cf.2.2.2.1
  have hts := cf.2.2.2.2
  have hw : WD g A s H locs [bO a 7 fs, bI g (ad 0) 60 d] := hw
  have hl : lv_has ls 3 [(0, .ref a), (1, .int x), (2, .int k)] := hl
  refine lv_aload_n hx hb dX7_as_0 rfl (lv_at hl 0 rfl) ?_
  refine lv_iload_n hx hb dX7_as_1 rfl (lv_at hl 1 rfl) ?_
  refine s_calli (runV cf (m_isHouse (d := d) hf x) hw [0, 1] (by decide) rfl km_X7_isHouse ki_X7_isHouse q1059 (run_recv (ci := 7) (T := TX7) (N := 39) hw 0 rfl rfl) rfl rfl hl.1 rfl dX7_as_2) hw [0, 1] (by decide) rfl (fun _ => rfl) (fun r_3 u_1 H locs hp_2 hw => ?_)
  have hw : WD g A s H locs [bO a 7 fs, bI g (ad 0) 60 d] := hw
  subst hp_2
  refine lv_if_eq (tgt := 20) hx hb dX7_as_5 (by decide) (fun c5 => ?_) (fun c5 => ?_)
  · have c5 := b01_z c5
    refine lv_ldc hx hb hown (hts _ q1049) dX7_as_20 ?_
    exact s_iret cf hr hlk () hw (by unfold R_as; rw [if_neg (by grind)]) (Nat.le_of_ble_eq_true rfl) (Nat.le_of_ble_eq_true rfl) dX7_as_22 hQ
  · have c5 := b01_n c5
    refine lv_iload_n hx hb dX7_as_8 rfl (lv_at hl 2 rfl) ?_
    refine lv_i2l (v := (k : Int32).toInt64) hx hb dX7_as_9 rfl ?_
    refine lv_lconst (v := (0 : Int32).toInt64) hx hb dX7_as_10 (by decide) ?_
    refine lv_ldc2 hx hb hown (hts _ q1044) dX7_as_11 ?_
    refine lv_toplr (y := (5 : Int32).toInt64) (by decide) ?_
    refine s_calli (runS cf (m_in (k : Int32) (0 : Int32) (5 : Int32)) hw [] (by decide) rfl km_X7_in ks_X7_in q1045 rfl rfl hl.1 rfl dX7_as_14) hw [] (by decide) rfl (fun _ => rfl) (fun r_6 u_4 H locs hp_5 hw => ?_)
    have hw : WD g A s H locs [bO a 7 fs, bI g (ad 0) 60 d] := hw
    subst hp_5
    refine lv_if_ne (tgt := 23) hx hb dX7_as_17 (by decide) (fun c17 => ?_) (fun c17 => ?_)
    · have c17 := b01_n c17
      obtain ⟨j, hjn, hxj, hcl⟩ := isH_nat hn hn10 c5
      subst hxj
      refine lv_aload_n hx hb dX7_as_23 rfl (lv_at hl 0 rfl) ?_
      refine lv_iload_n hx hb dX7_as_24 rfl (lv_at hl 1 rfl) ?_
      refine lv_iconst (v := 0) hx hb dX7_as_25 (by decide) ?_
      refine s_calli (runV cf (m_of (d := d) hf j 0 (by omega)) hw [0, 1] (by decide) rfl km_X7_of ki_X7_of q1076 (run_recv (ci := 7) (T := TX7) (N := 39) hw 0 rfl rfl) rfl rfl hl.1 rfl dX7_as_26) hw [0, 1] (by decide) rfl (fun _ => rfl) (fun r_9 u_7 H locs hp_8 hw => ?_)
      have hw : WD g A s H locs [bO a 7 fs, bI g (ad 0) 60 d] := hw
      subst hp_8
      refine lv_iload_n hx hb dX7_as_29 rfl (lv_at hl 2 rfl) ?_
      refine s_calli (runS cf (m_isUnder (d (10 + 5 * j + 0)) k) hw [] (by decide) rfl km_X7_isUnder ks_X7_isUnder q1111 rfl rfl hl.1 rfl dX7_as_30) hw [] (by decide) rfl (fun _ => rfl) (fun r_12 u_10 H locs hp_11 hw => ?_)
      have hw : WD g A s H locs [bO a 7 fs, bI g (ad 0) 60 d] := hw
      subst hp_11
      refine lv_if_eq (tgt := 45) hx hb dX7_as_33 (by decide) (fun c33 => ?_) (fun c33 => ?_)
      · have c33 := b01_z c33
        refine lv_ldc hx hb hown (hts _ q1117) dX7_as_45 ?_
        exact s_iret cf hr hlk () hw (by unfold R_as; rw [if_pos ⟨c5, c17⟩, hcl, if_neg c33]) (Nat.le_of_ble_eq_true rfl) (Nat.le_of_ble_eq_true rfl) dX7_as_47 hQ
      · have c33 := b01_n c33
        refine lv_aload_n hx hb dX7_as_36 rfl (lv_at hl 0 rfl) ?_
        refine lv_iload_n hx hb dX7_as_37 rfl (lv_at hl 1 rfl) ?_
        refine lv_iconst (v := 1) hx hb dX7_as_38 (by decide) ?_
        refine s_calli (runV cf (m_of (d := d) hf j 1 (by omega)) hw [0, 1] (by decide) rfl km_X7_of ki_X7_of q1076 (run_recv (ci := 7) (T := TX7) (N := 39) hw 0 rfl rfl) rfl rfl hl.1 rfl dX7_as_39) hw [0, 1] (by decide) rfl (fun _ => rfl) (fun r_15 u_13 H locs hp_14 hw => ?_)
        have hw : WD g A s H locs [bO a 7 fs, bI g (ad 0) 60 d] := hw
        subst hp_14
        refine lv_goto (tgt := 47) hx hb dX7_as_42 (by decide) ?_
        exact s_iret cf hr hlk () hw (by unfold R_as; rw [if_pos ⟨c5, c17⟩, hcl, if_pos c33]) (Nat.le_of_ble_eq_true rfl) (Nat.le_of_ble_eq_true rfl) dX7_as_47 hQ
    · have c17 := b01_z c17
      refine lv_ldc hx hb hown (hts _ q1049) dX7_as_20 ?_
      exact s_iret cf hr hlk () hw (by unfold R_as; rw [if_neg (by grind)]) (Nat.le_of_ble_eq_true rfl) (Nat.le_of_ble_eq_true rfl) dX7_as_22 hQ
set_option maxRecDepth 100000 in
set_option maxHeartbeats 4000000 in
theorem m_turns {l : Launch} {g : GG} {a : Nat} {ad : Nat → Nat} {fs : List Value} (hf : MF ad fs) {d : DD} {n : Nat} (hn : d 0 = nI n) (hn10 : n ≤ 10) (x k : Int32) : Ct l g yX7_turns cX7_turns 3 (Option.some Jvm.ClassFile.FieldType.int) 2 0 0 [.ref a, .int x, .int k] [bO a 7 fs, bI g (ad 0) 60 d] (QI g (fun r (_ : Unit) => r = R_turns d x k) (fun _ => [bO a 7 fs, bI g (ad 0) 60 (D_turns d x k)])) := by
  refine Ct.of (by decide) rfl ?_
  intro p e s m args below meth c A H locs ls Qf cf hr hlk hnm hQ hw hl
  have hx := cf.1
  have hb := cf.2.1
  have hml := cf.2.2.1
  have hown := cf.2.2.2.1
  have hts := cf.2.2.2.2
  have hw : WD g A s H locs [bO a 7 fs, bI g (ad 0) 60 d] := hw
  have hl : lv_has ls 3 [(0, .ref a), (1, .int x), (2, .int k)] := hl
  refine lv_aload_n hx hb dX7_turns_0 rfl (lv_at hl 0 rfl) ?_
  refine lv_iload_n hx hb dX7_turns_1 rfl (lv_at hl 1 rfl) ?_
  refine s_calli (runV cf (m_isHouse (d := d) hf x) hw [0, 1] (by decide) rfl km_X7_isHouse ki_X7_isHouse q1059 (run_recv (ci := 7) (T := TX7) (N := 39) hw 0 rfl rfl) rfl rfl hl.1 rfl dX7_turns_2) hw [0, 1] (by decide) rfl (fun _ => rfl) (fun r_3 u_1 H locs hp_2 hw => ?_)
  have hw : WD g A s H locs [bO a 7 fs, bI g (ad 0) 60 d] := hw
  subst hp_2
  refine lv_if_eq (tgt := 34) hx hb dX7_turns_5 (by decide) (fun c5 => ?_) (fun c5 => ?_)
  · have c5 := b01_z c5
    refine lv_ldc hx hb hown (hts _ q1049) dX7_turns_34 ?_
    exact s_iret cf hr hlk () (by have q : D_turns d x k = d := (by unfold D_turns; rw [if_neg (by grind)]); rw [q]; exact hw) (by unfold R_turns; rw [if_neg (by grind)]) (Nat.le_of_ble_eq_true rfl) (Nat.le_of_ble_eq_true rfl) dX7_turns_36 hQ
  · have c5 := b01_n c5
    refine lv_iload_n hx hb dX7_turns_8 rfl (lv_at hl 2 rfl) ?_
    refine lv_i2l (v := (k : Int32).toInt64) hx hb dX7_turns_9 rfl ?_
    refine lv_lconst (v := (0 : Int32).toInt64) hx hb dX7_turns_10 (by decide) ?_
    refine lv_ldc2 hx hb hown (hts _ q1044) dX7_turns_11 ?_
    refine lv_toplr (y := (5 : Int32).toInt64) (by decide) ?_
    refine s_calli (runS cf (m_in (k : Int32) (0 : Int32) (5 : Int32)) hw [] (by decide) rfl km_X7_in ks_X7_in q1045 rfl rfl hl.1 rfl dX7_turns_14) hw [] (by decide) rfl (fun _ => rfl) (fun r_6 u_4 H locs hp_5 hw => ?_)
    have hw : WD g A s H locs [bO a 7 fs, bI g (ad 0) 60 d] := hw
    subst hp_5
    refine lv_if_eq (tgt := 34) hx hb dX7_turns_17 (by decide) (fun c17 => ?_) (fun c17 => ?_)
    · have c17 := b01_z c17
      refine lv_ldc hx hb hown (hts _ q1049) dX7_turns_34 ?_
      exact s_iret cf hr hlk () (by have q : D_turns d x k = d := (by unfold D_turns; rw [if_neg (by grind)]); rw [q]; exact hw) (by unfold R_turns; rw [if_neg (by grind)]) (Nat.le_of_ble_eq_true rfl) (Nat.le_of_ble_eq_true rfl) dX7_turns_36 hQ
    · have c17 := b01_n c17
      obtain ⟨j, hjn, hxj, hcl⟩ := isH_nat hn hn10 c5
      subst hxj
      refine lv_aload_n hx hb dX7_turns_20 rfl (lv_at hl 0 rfl) ?_
      refine lv_bipush (v := 10) hx hb dX7_turns_21 (by decide) ?_
      refine lv_iconst (v := 5) hx hb dX7_turns_23 (by decide) ?_
      refine lv_iload_n hx hb dX7_turns_24 rfl (lv_at hl 1 rfl) ?_
      refine lv_imul hx hb dX7_turns_25 ?_
      refine lv_iadd hx hb dX7_turns_26 ?_
      refine lv_topr (y := nI (10 + 5 * j + 0)) (ix5b j) ?_
      refine lv_iload_n hx hb dX7_turns_27 rfl (lv_at hl 2 rfl) ?_
      refine s_calli (runV cf (m_becomesAt (d := d) hf (10 + 5 * j + 0) k (by omega)) hw [0, 1] (by decide) rfl km_X7_becomesAt ki_X7_becomesAt q1122 (run_recv (ci := 7) (T := TX7) (N := 39) hw 0 rfl rfl) rfl rfl hl.1 rfl dX7_turns_28) hw [0, 1] (by decide) rfl (fun _ => rfl) (fun r_9 u_7 H locs hp_8 hw => ?_)
      have hw : WD g A s H locs [bO a 7 fs, bI g (ad 0) 60 (upd d (10 + 5 * j + 0) k)] := hw
      subst hp_8
      refine lv_goto (tgt := 36) hx hb dX7_turns_31 (by decide) ?_
      exact s_iret cf hr hlk () (by have q : D_turns d (nI j) k = upd d (10 + 5 * j + 0) k := (by unfold D_turns; rw [if_pos ⟨c5, c17⟩, hcl]); rw [q]; exact hw) (by unfold R_turns; rw [if_pos ⟨c5, c17⟩, hcl]) (Nat.le_of_ble_eq_true rfl) (Nat.le_of_ble_eq_true rfl) dX7_turns_36 hQ
set_option maxRecDepth 100000 in
set_option maxHeartbeats 4000000 in
theorem m_set {l : Launch} {g : GG} {a : Nat} {ad : Nat → Nat} {fs : List Value} (hf : MF ad fs) {d : DD} {n : Nat} (hn : d 0 = nI n) (hn10 : n ≤ 10) (x w v : Int32) : Ct l g yX7_set cX7_set 4 (Option.some Jvm.ClassFile.FieldType.int) 2 0 0 [.ref a, .int x, .int w, .int v] [bO a 7 fs, bI g (ad 0) 60 d] (QI g (fun r (_ : Unit) => r = R_set d x w v) (fun _ => [bO a 7 fs, bI g (ad 0) 60 (D_set d x w v)])) := by
  refine Ct.of (by decide) rfl ?_
  intro p e s m args below meth c A H locs ls Qf cf hr hlk hnm hQ hw hl
  have hx := cf.1
  have hb := cf.2.1
  have hml := cf.2.2.1
  have hown := cf.2.2.2.1
  have hts := cf.2.2.2.2
  have hw : WD g A s H locs [bO a 7 fs, bI g (ad 0) 60 d] := hw
  have hl : lv_has ls 4 [(0, .ref a), (1, .int x), (2, .int w), (3, .int v)] := hl
  refine lv_aload_n hx hb dX7_set_0 rfl (lv_at hl 0 rfl) ?_
  refine lv_iload_n hx hb dX7_set_1 rfl (lv_at hl 1 rfl) ?_
  refine s_calli (runV cf (m_isHouse (d := d) hf x) hw [0, 1] (by decide) rfl km_X7_isHouse ki_X7_isHouse q1059 (run_recv (ci := 7) (T := TX7) (N := 39) hw 0 rfl rfl) rfl rfl hl.1 rfl dX7_set_2) hw [0, 1] (by decide) rfl (fun _ => rfl) (fun r_3 u_1 H locs hp_2 hw => ?_)
  have hw : WD g A s H locs [bO a 7 fs, bI g (ad 0) 60 d] := hw
  subst hp_2
  refine lv_if_eq (tgt := 59) hx hb dX7_set_5 (by decide) (fun c5 => ?_) (fun c5 => ?_)
  · have c5 := b01_z c5
    refine lv_ldc hx hb hown (hts _ q1049) dX7_set_59 ?_
    exact s_iret cf hr hlk () (by have q : D_set d x w v = d := (by unfold D_set; rw [if_neg (by grind)]); rw [q]; exact hw) (by unfold R_set; rw [if_neg (by grind)]) (Nat.le_of_ble_eq_true rfl) (Nat.le_of_ble_eq_true rfl) dX7_set_61 hQ
  · have c5 := b01_n c5
    refine lv_iload_n hx hb dX7_set_8 rfl (lv_at hl 2 rfl) ?_
    refine lv_i2l (v := (w : Int32).toInt64) hx hb dX7_set_9 rfl ?_
    refine lv_lconst (v := (1 : Int32).toInt64) hx hb dX7_set_10 (by decide) ?_
    refine lv_ldc2 hx hb hown (hts _ q1130) dX7_set_11 ?_
    refine lv_toplr (y := (4 : Int32).toInt64) (by decide) ?_
    refine s_calli (runS cf (m_in (w : Int32) (1 : Int32) (4 : Int32)) hw [] (by decide) rfl km_X7_in ks_X7_in q1045 rfl rfl hl.1 rfl dX7_set_14) hw [] (by decide) rfl (fun _ => rfl) (fun r_6 u_4 H locs hp_5 hw => ?_)
    have hw : WD g A s H locs [bO a 7 fs, bI g (ad 0) 60 d] := hw
    subst hp_5
    refine lv_if_eq (tgt := 59) hx hb dX7_set_17 (by decide) (fun c17 => ?_) (fun c17 => ?_)
    · have c17 := b01_z c17
      refine lv_ldc hx hb hown (hts _ q1049) dX7_set_59 ?_
      exact s_iret cf hr hlk () (by have q : D_set d x w v = d := (by unfold D_set; rw [if_neg (by grind)]); rw [q]; exact hw) (by unfold R_set; rw [if_neg (by grind)]) (Nat.le_of_ble_eq_true rfl) (Nat.le_of_ble_eq_true rfl) dX7_set_61 hQ
    · have c17 := b01_n c17
      refine lv_iload_n hx hb dX7_set_20 rfl (lv_at hl 3 rfl) ?_
      refine lv_i2l (v := (v : Int32).toInt64) hx hb dX7_set_21 rfl ?_
      refine lv_lconst (v := (0 : Int32).toInt64) hx hb dX7_set_22 (by decide) ?_
      refine lv_iload_n hx hb dX7_set_23 rfl (lv_at hl 2 rfl) ?_
      refine lv_iconst (v := 4) hx hb dX7_set_24 (by decide) ?_
      refine lv_icmp_ne (tgt := 34) hx hb dX7_set_25 (by decide) (fun c25 => ?_) (fun c25 => ?_)
      · refine lv_ldc2 hx hb hown (hts _ q1048) dX7_set_34 ?_
        refine lv_toplr (y := (99 : Int32).toInt64) (by decide) ?_
        refine lv_toplr (y := (if w = 4 then 9999 else 99 : Int32).toInt64) (by grind) ?_
        refine s_calli (runS cf (m_in (v : Int32) (0 : Int32) (if w = 4 then 9999 else 99 : Int32)) hw [] (by decide) rfl km_X7_in ks_X7_in q1045 rfl rfl hl.1 rfl dX7_set_37) hw [] (by decide) rfl (fun _ => rfl) (fun r_9 u_7 H locs hp_8 hw => ?_)
        have hw : WD g A s H locs [bO a 7 fs, bI g (ad 0) 60 d] := hw
        subst hp_8
        refine lv_if_eq (tgt := 59) hx hb dX7_set_40 (by decide) (fun c40 => ?_) (fun c40 => ?_)
        · have c40 := b01_z c40
          refine lv_ldc hx hb hown (hts _ q1049) dX7_set_59 ?_
          exact s_iret cf hr hlk () (by have q : D_set d x w v = d := (by unfold D_set; rw [if_neg (by grind)]); rw [q]; exact hw) (by unfold R_set; rw [if_neg (by grind)]) (Nat.le_of_ble_eq_true rfl) (Nat.le_of_ble_eq_true rfl) dX7_set_61 hQ
        · have c40 := b01_n c40
          have hok : okSet d x w v := ⟨c5, c17, c40⟩
          obtain ⟨j, hjn, hxj, hcl⟩ := isH_nat hn hn10 c5
          subst hxj
          obtain ⟨wn, hwn, hww⟩ := rng_nat (m := 4) (by omega) (by grind) c17.2
          subst hww
          refine lv_aload_n hx hb dX7_set_43 rfl (lv_at hl 0 rfl) ?_
          refine lv_bipush (v := 10) hx hb dX7_set_44 (by decide) ?_
          refine lv_iconst (v := 5) hx hb dX7_set_46 (by decide) ?_
          refine lv_iload_n hx hb dX7_set_47 rfl (lv_at hl 1 rfl) ?_
          refine lv_imul hx hb dX7_set_48 ?_
          refine lv_iadd hx hb dX7_set_49 ?_
          refine lv_iload_n hx hb dX7_set_50 rfl (lv_at hl 2 rfl) ?_
          refine lv_iadd hx hb dX7_set_51 ?_
          refine lv_topr (y := nI (10 + 5 * j + wn)) (ix5 j wn) ?_
          refine lv_iload_n hx hb dX7_set_52 rfl (lv_at hl 3 rfl) ?_
          refine s_calli (runV cf (m_becomesAt (d := d) hf (10 + 5 * j + wn) v (by omega)) hw [0, 1] (by decide) rfl km_X7_becomesAt ki_X7_becomesAt q1122 (run_recv (ci := 7) (T := TX7) (N := 39) hw 0 rfl rfl) rfl rfl hl.1 rfl dX7_set_53) hw [0, 1] (by decide) rfl (fun _ => rfl) (fun r_12 u_10 H locs hp_11 hw => ?_)
          have hw : WD g A s H locs [bO a 7 fs, bI g (ad 0) 60 (upd d (10 + 5 * j + wn) v)] := hw
          subst hp_11
          refine lv_goto (tgt := 61) hx hb dX7_set_56 (by decide) ?_
          exact s_iret cf hr hlk () (by have q : D_set d (nI j) (nI wn) v = upd d (10 + 5 * j + wn) v := (by unfold D_set; rw [if_pos hok, hcl, nI_clamp (by omega)]); rw [q]; exact hw) (by unfold R_set; rw [if_pos hok, hcl, nI_clamp (by omega)]) (Nat.le_of_ble_eq_true rfl) (Nat.le_of_ble_eq_true rfl) dX7_set_61 hQ
      · refine lv_ldc2 hx hb hown (hts _ q1131) dX7_set_28 ?_
        refine lv_toplr (y := (9999 : Int32).toInt64) (by decide) ?_
        refine lv_goto (tgt := 37) hx hb dX7_set_31 (by decide) ?_
        refine lv_toplr (y := (if w = 4 then 9999 else 99 : Int32).toInt64) (by grind) ?_
        refine s_calli (runS cf (m_in (v : Int32) (0 : Int32) (if w = 4 then 9999 else 99 : Int32)) hw [] (by decide) rfl km_X7_in ks_X7_in q1045 rfl rfl hl.1 rfl dX7_set_37) hw [] (by decide) rfl (fun _ => rfl) (fun r_15 u_13 H locs hp_14 hw => ?_)
        have hw : WD g A s H locs [bO a 7 fs, bI g (ad 0) 60 d] := hw
        subst hp_14
        refine lv_if_eq (tgt := 59) hx hb dX7_set_40 (by decide) (fun c40 => ?_) (fun c40 => ?_)
        · have c40 := b01_z c40
          refine lv_ldc hx hb hown (hts _ q1049) dX7_set_59 ?_
          exact s_iret cf hr hlk () (by have q : D_set d x w v = d := (by unfold D_set; rw [if_neg (by grind)]); rw [q]; exact hw) (by unfold R_set; rw [if_neg (by grind)]) (Nat.le_of_ble_eq_true rfl) (Nat.le_of_ble_eq_true rfl) dX7_set_61 hQ
        · have c40 := b01_n c40
          have hok : okSet d x w v := ⟨c5, c17, c40⟩
          obtain ⟨j, hjn, hxj, hcl⟩ := isH_nat hn hn10 c5
          subst hxj
          obtain ⟨wn, hwn, hww⟩ := rng_nat (m := 4) (by omega) (by grind) c17.2
          subst hww
          refine lv_aload_n hx hb dX7_set_43 rfl (lv_at hl 0 rfl) ?_
          refine lv_bipush (v := 10) hx hb dX7_set_44 (by decide) ?_
          refine lv_iconst (v := 5) hx hb dX7_set_46 (by decide) ?_
          refine lv_iload_n hx hb dX7_set_47 rfl (lv_at hl 1 rfl) ?_
          refine lv_imul hx hb dX7_set_48 ?_
          refine lv_iadd hx hb dX7_set_49 ?_
          refine lv_iload_n hx hb dX7_set_50 rfl (lv_at hl 2 rfl) ?_
          refine lv_iadd hx hb dX7_set_51 ?_
          refine lv_topr (y := nI (10 + 5 * j + wn)) (ix5 j wn) ?_
          refine lv_iload_n hx hb dX7_set_52 rfl (lv_at hl 3 rfl) ?_
          refine s_calli (runV cf (m_becomesAt (d := d) hf (10 + 5 * j + wn) v (by omega)) hw [0, 1] (by decide) rfl km_X7_becomesAt ki_X7_becomesAt q1122 (run_recv (ci := 7) (T := TX7) (N := 39) hw 0 rfl rfl) rfl rfl hl.1 rfl dX7_set_53) hw [0, 1] (by decide) rfl (fun _ => rfl) (fun r_18 u_16 H locs hp_17 hw => ?_)
          have hw : WD g A s H locs [bO a 7 fs, bI g (ad 0) 60 (upd d (10 + 5 * j + wn) v)] := hw
          subst hp_17
          refine lv_goto (tgt := 61) hx hb dX7_set_56 (by decide) ?_
          exact s_iret cf hr hlk () (by have q : D_set d (nI j) (nI wn) v = upd d (10 + 5 * j + wn) v := (by unfold D_set; rw [if_pos hok, hcl, nI_clamp (by omega)]); rw [q]; exact hw) (by unfold R_set; rw [if_pos hok, hcl, nI_clamp (by omega)]) (Nat.le_of_ble_eq_true rfl) (Nat.le_of_ble_eq_true rfl) dX7_set_61 hQ
set_option maxRecDepth 100000 in
set_option maxHeartbeats 4000000 in
theorem m_rule {l : Launch} {g : GG} {a : Nat} {ad : Nat → Nat} {fs : List Value} (hf : MF ad fs) {d : DD} (w v : Int32) : Ct l g yX7_rule cX7_rule 3 (Option.some Jvm.ClassFile.FieldType.int) 1 0 0 [.ref a, .int w, .int v] [bO a 7 fs, bI g (ad 0) 60 d] (QI g (fun r (_ : Unit) => r = R_rule d w v) (fun _ => [bO a 7 fs, bI g (ad 0) 60 (D_rule d w v)])) := by
  refine Ct.of (by decide) rfl ?_
  intro p e s m args below meth c A H locs ls Qf cf hr hlk hnm hQ hw hl
  have hx := cf.1
  have hb := cf.2.1
  have hml := cf.2.2.1
  have hown := cf.2.2.2.1
  have hts := cf.2.2.2.2
  have hw : WD g A s H locs [bO a 7 fs, bI g (ad 0) 60 d] := hw
  have hl : lv_has ls 3 [(0, .ref a), (1, .int w), (2, .int v)] := hl
  refine lv_iload_n hx hb dX7_rule_0 rfl (lv_at hl 1 rfl) ?_
  refine lv_i2l (v := (w : Int32).toInt64) hx hb dX7_rule_1 rfl ?_
  refine lv_lconst (v := (0 : Int32).toInt64) hx hb dX7_rule_2 (by decide) ?_
  refine lv_ldc2 hx hb hown (hts _ q1136) dX7_rule_3 ?_
  refine lv_toplr (y := (2 : Int32).toInt64) (by decide) ?_
  refine s_calli (runS cf (m_in (w : Int32) (0 : Int32) (2 : Int32)) hw [] (by decide) rfl km_X7_in ks_X7_in q1045 rfl rfl hl.1 rfl dX7_rule_6) hw [] (by decide) rfl (fun _ => rfl) (fun r_3 u_1 H locs hp_2 hw => ?_)
  have hw : WD g A s H locs [bO a 7 fs, bI g (ad 0) 60 d] := hw
  subst hp_2
  refine lv_if_eq (tgt := 46) hx hb dX7_rule_9 (by decide) (fun c9 => ?_) (fun c9 => ?_)
  · have c9 := b01_z c9
    refine lv_ldc hx hb hown (hts _ q1049) dX7_rule_46 ?_
    exact s_iret cf hr hlk () (by have q : D_rule d w v = d := (by unfold D_rule; rw [if_neg (by grind)]); rw [q]; exact hw) (by unfold R_rule; rw [if_neg (by grind)]) (Nat.le_of_ble_eq_true rfl) (Nat.le_of_ble_eq_true rfl) dX7_rule_48 hQ
  · have c9 := b01_n c9
    refine lv_iload_n hx hb dX7_rule_12 rfl (lv_at hl 2 rfl) ?_
    refine lv_i2l (v := (v : Int32).toInt64) hx hb dX7_rule_13 rfl ?_
    refine lv_lconst (v := (0 : Int32).toInt64) hx hb dX7_rule_14 (by decide) ?_
    refine lv_iload_n hx hb dX7_rule_15 rfl (lv_at hl 1 rfl) ?_
    refine lv_iconst (v := 2) hx hb dX7_rule_16 (by decide) ?_
    refine lv_icmp_ne (tgt := 26) hx hb dX7_rule_17 (by decide) (fun c17 => ?_) (fun c17 => ?_)
    · refine lv_ldc2 hx hb hown (hts _ q1048) dX7_rule_26 ?_
      refine lv_toplr (y := (99 : Int32).toInt64) (by decide) ?_
      refine lv_toplr (y := (if w = 2 then 100 else 99 : Int32).toInt64) (by grind) ?_
      refine s_calli (runS cf (m_in (v : Int32) (0 : Int32) (if w = 2 then 100 else 99 : Int32)) hw [] (by decide) rfl km_X7_in ks_X7_in q1045 rfl rfl hl.1 rfl dX7_rule_29) hw [] (by decide) rfl (fun _ => rfl) (fun r_6 u_4 H locs hp_5 hw => ?_)
      have hw : WD g A s H locs [bO a 7 fs, bI g (ad 0) 60 d] := hw
      subst hp_5
      refine lv_if_eq (tgt := 46) hx hb dX7_rule_32 (by decide) (fun c32 => ?_) (fun c32 => ?_)
      · have c32 := b01_z c32
        refine lv_ldc hx hb hown (hts _ q1049) dX7_rule_46 ?_
        exact s_iret cf hr hlk () (by have q : D_rule d w v = d := (by unfold D_rule; rw [if_neg (by grind)]); rw [q]; exact hw) (by unfold R_rule; rw [if_neg (by grind)]) (Nat.le_of_ble_eq_true rfl) (Nat.le_of_ble_eq_true rfl) dX7_rule_48 hQ
      · have c32 := b01_n c32
        have hok : okRule w v := ⟨c9, c32⟩
        obtain ⟨wn, hwn, hww⟩ := rng_nat (m := 2) (by omega) c9.1 c9.2
        subst hww
        refine lv_aload_n hx hb dX7_rule_35 rfl (lv_at hl 0 rfl) ?_
        refine lv_iconst (v := 2) hx hb dX7_rule_36 (by decide) ?_
        refine lv_iload_n hx hb dX7_rule_37 rfl (lv_at hl 1 rfl) ?_
        refine lv_iadd hx hb dX7_rule_38 ?_
        refine lv_topr (y := nI (2 + wn)) (nI_add 2 wn) ?_
        refine lv_iload_n hx hb dX7_rule_39 rfl (lv_at hl 2 rfl) ?_
        refine s_calli (runV cf (m_becomesAt (d := d) hf (2 + wn) v (by omega)) hw [0, 1] (by decide) rfl km_X7_becomesAt ki_X7_becomesAt q1122 (run_recv (ci := 7) (T := TX7) (N := 39) hw 0 rfl rfl) rfl rfl hl.1 rfl dX7_rule_40) hw [0, 1] (by decide) rfl (fun _ => rfl) (fun r_9 u_7 H locs hp_8 hw => ?_)
        have hw : WD g A s H locs [bO a 7 fs, bI g (ad 0) 60 (upd d (2 + wn) v)] := hw
        subst hp_8
        refine lv_goto (tgt := 48) hx hb dX7_rule_43 (by decide) ?_
        exact s_iret cf hr hlk () (by have q : D_rule d (nI wn) v = upd d (2 + wn) v := (by unfold D_rule; rw [if_pos hok, nI_clamp (by omega)]); rw [q]; exact hw) (by unfold R_rule; rw [if_pos hok, nI_clamp (by omega)]) (Nat.le_of_ble_eq_true rfl) (Nat.le_of_ble_eq_true rfl) dX7_rule_48 hQ
    · refine lv_ldc2 hx hb hown (hts _ q1137) dX7_rule_20 ?_
      refine lv_toplr (y := (100 : Int32).toInt64) (by decide) ?_
      refine lv_goto (tgt := 29) hx hb dX7_rule_23 (by decide) ?_
      refine lv_toplr (y := (if w = 2 then 100 else 99 : Int32).toInt64) (by grind) ?_
      refine s_calli (runS cf (m_in (v : Int32) (0 : Int32) (if w = 2 then 100 else 99 : Int32)) hw [] (by decide) rfl km_X7_in ks_X7_in q1045 rfl rfl hl.1 rfl dX7_rule_29) hw [] (by decide) rfl (fun _ => rfl) (fun r_12 u_10 H locs hp_11 hw => ?_)
      have hw : WD g A s H locs [bO a 7 fs, bI g (ad 0) 60 d] := hw
      subst hp_11
      refine lv_if_eq (tgt := 46) hx hb dX7_rule_32 (by decide) (fun c32 => ?_) (fun c32 => ?_)
      · have c32 := b01_z c32
        refine lv_ldc hx hb hown (hts _ q1049) dX7_rule_46 ?_
        exact s_iret cf hr hlk () (by have q : D_rule d w v = d := (by unfold D_rule; rw [if_neg (by grind)]); rw [q]; exact hw) (by unfold R_rule; rw [if_neg (by grind)]) (Nat.le_of_ble_eq_true rfl) (Nat.le_of_ble_eq_true rfl) dX7_rule_48 hQ
      · have c32 := b01_n c32
        have hok : okRule w v := ⟨c9, c32⟩
        obtain ⟨wn, hwn, hww⟩ := rng_nat (m := 2) (by omega) c9.1 c9.2
        subst hww
        refine lv_aload_n hx hb dX7_rule_35 rfl (lv_at hl 0 rfl) ?_
        refine lv_iconst (v := 2) hx hb dX7_rule_36 (by decide) ?_
        refine lv_iload_n hx hb dX7_rule_37 rfl (lv_at hl 1 rfl) ?_
        refine lv_iadd hx hb dX7_rule_38 ?_
        refine lv_topr (y := nI (2 + wn)) (nI_add 2 wn) ?_
        refine lv_iload_n hx hb dX7_rule_39 rfl (lv_at hl 2 rfl) ?_
        refine s_calli (runV cf (m_becomesAt (d := d) hf (2 + wn) v (by omega)) hw [0, 1] (by decide) rfl km_X7_becomesAt ki_X7_becomesAt q1122 (run_recv (ci := 7) (T := TX7) (N := 39) hw 0 rfl rfl) rfl rfl hl.1 rfl dX7_rule_40) hw [0, 1] (by decide) rfl (fun _ => rfl) (fun r_15 u_13 H locs hp_14 hw => ?_)
        have hw : WD g A s H locs [bO a 7 fs, bI g (ad 0) 60 (upd d (2 + wn) v)] := hw
        subst hp_14
        refine lv_goto (tgt := 48) hx hb dX7_rule_43 (by decide) ?_
        exact s_iret cf hr hlk () (by have q : D_rule d (nI wn) v = upd d (2 + wn) v := (by unfold D_rule; rw [if_pos hok, nI_clamp (by omega)]); rw [q]; exact hw) (by unfold R_rule; rw [if_pos hok, nI_clamp (by omega)]) (Nat.le_of_ble_eq_true rfl) (Nat.le_of_ble_eq_true rfl) dX7_rule_48 hQ
set_option maxRecDepth 100000 in
set_option maxHeartbeats 4000000 in
theorem m_seed {l : Launch} {g : GG} {a : Nat} {ad : Nat → Nat} {fs : List Value} (hf : MF ad fs) {d : DD} (v : Int32) : Ct l g yX7_seed cX7_seed 2 (Option.some Jvm.ClassFile.FieldType.int) 1 0 0 [.ref a, .int v] [bO a 7 fs, bI g (ad 0) 60 d] (QI g (fun r (_ : Unit) => r = d 8) (fun _ => [bO a 7 fs, bI g (ad 0) 60 (upd d 8 v)])) := by
  refine Ct.of (by decide) rfl ?_
  intro p e s m args below meth c A H locs ls Qf cf hr hlk hnm hQ hw hl
  have hx := cf.1
  have hb := cf.2.1
  have hml := cf.2.2.1
  have hown := cf.2.2.2.1
  have hts := cf.2.2.2.2
  have hw : WD g A s H locs [bO a 7 fs, bI g (ad 0) 60 d] := hw
  have hl : lv_has ls 2 [(0, .ref a), (1, .int v)] := hl
  refine lv_aload_n hx hb dX7_seed_0 rfl (lv_at hl 0 rfl) ?_
  refine lv_bipush (v := 8) hx hb dX7_seed_1 (by decide) ?_
  refine lv_iload_n hx hb dX7_seed_3 rfl (lv_at hl 1 rfl) ?_
  refine s_calli (runV cf (m_becomesAt (d := d) hf 8 v (by omega)) hw [0, 1] (by decide) rfl km_X7_becomesAt ki_X7_becomesAt q1122 (run_recv (ci := 7) (T := TX7) (N := 39) hw 0 rfl rfl) rfl rfl hl.1 rfl dX7_seed_4) hw [0, 1] (by decide) rfl (fun _ => rfl) (fun r_3 u_1 H locs hp_2 hw => ?_)
  have hw : WD g A s H locs [bO a 7 fs, bI g (ad 0) 60 (upd d 8 v)] := hw
  subst hp_2
  exact s_iret cf hr hlk () hw rfl (Nat.le_of_ble_eq_true rfl) (Nat.le_of_ble_eq_true rfl) dX7_seed_7 hQ
set_option maxRecDepth 100000 in
set_option maxHeartbeats 4000000 in
theorem m_round {l : Launch} {g : GG} {a : Nat} {ad : Nat → Nat} {fs : List Value} (hf : MF ad fs) {d cdf kf sf pl : DD} {ft : TXC} (hT : TxOK d kf sf cdf 0 ft) {n : Nat} (hn : d 0 = nI n) (hn10 : n ≤ 10) : Ct l g yX7_round cX7_round 1 (Option.some Jvm.ClassFile.FieldType.int) 5 0 0 [.ref a] [bO a 7 fs, bI g (ad 0) 60 d, bI g (ad 5) 1344 cdf, bI g (ad 6) 14 kf, bI g (ad 7) 14 sf, bI g (ad 9) 96 pl] (QI g (fun r (_ : DD) => r = roundF ft d 5) (fun u => [bO a 7 fs, bI g (ad 0) 60 (roundF ft d), bI g (ad 5) 1344 cdf, bI g (ad 6) 14 kf, bI g (ad 7) 14 sf, bI g (ad 9) 96 u])) := by
  refine Ct.of (by decide) rfl ?_
  intro p e s m args below meth c A H locs ls Qf cf hr hlk hnm hQ hw hl
  have hx := cf.1
  have hb := cf.2.1
  have hml := cf.2.2.1
  have hown := cf.2.2.2.1
  have hts := cf.2.2.2.2
  have hw : WD g A s H locs [bO a 7 fs, bI g (ad 0) 60 d, bI g (ad 5) 1344 cdf, bI g (ad 6) 14 kf, bI g (ad 7) 14 sf, bI g (ad 9) 96 pl] := hw
  have hl : lv_has ls 1 [(0, .ref a)] := hl
  refine lv_aload_n hx hb dX7_round_0 rfl (lv_at hl 0 rfl) ?_
  refine s_callv (runV cf (m_roundGoes (d := d) (cdf := cdf) (kf := kf) (sf := sf) (pl := pl) (ft := ft) hf hT (n := n) hn hn10) hw [0, 1, 2, 3, 4, 5] (by decide) rfl km_X7_roundGoes ki_X7_roundGoes q1157 (run_recv (ci := 7) (T := TX7) (N := 39) hw 0 rfl rfl) rfl rfl hl.1 rfl dX7_round_1) hw [0, 1, 2, 3, 4, 5] (by decide) rfl (fun _ => rfl) (fun u_1 H locs hp_2 hw => ?_)
  have hw : WD g A s H locs [bO a 7 fs, bI g (ad 0) 60 (roundF ft d), bI g (ad 5) 1344 cdf, bI g (ad 6) 14 kf, bI g (ad 7) 14 sf, bI g (ad 9) 96 u_1] := hw
  refine lv_aload_n hx hb dX7_round_4 rfl (lv_at hl 0 rfl) ?_
  refine s_get (v := .ref (ad 0)) fb7 cf hw 0 rfl 0 rfl q921 (hf.2 0 rfl) dX7_round_5 ?_
  refine lv_iconst (v := 5) hx hb dX7_round_8 (by decide) ?_
  refine s_iald (j := 5) cf hw 1 rfl (rfl) (by decide) rfl dX7_round_9 ?_
  exact s_iret cf hr hlk u_1 hw rfl (Nat.le_of_ble_eq_true rfl) (Nat.le_of_ble_eq_true rfl) dX7_round_10 hQ
set_option maxRecDepth 100000 in
set_option maxHeartbeats 4000000 in
theorem m_load {l : Launch} {g : GG} {a : Nat} {ad : Nat → Nat} {fs : List Value} (hf : MF ad fs) {d cdf kf sf pl : DD} {ft : TXC} (hT : TxOK d kf sf cdf 0 ft) {n : Nat} (hn : d 0 = nI n) (hn10 : n ≤ 10) (x : Int32) : Ct l g yX7_load cX7_load 3 (Option.some Jvm.ClassFile.FieldType.int) 5 0 0 [.ref a, .int x] [bO a 7 fs, bI g (ad 0) 60 d, bI g (ad 5) 1344 cdf, bI g (ad 6) 14 kf, bI g (ad 7) 14 sf, bI g (ad 9) 96 pl] (QI g (fun r (_ : DD) => r = R_load ft d x) (fun u => [bO a 7 fs, bI g (ad 0) 60 (D_load ft d x), bI g (ad 5) 1344 cdf, bI g (ad 6) 14 kf, bI g (ad 7) 14 sf, bI g (ad 9) 96 u])) := by
  refine Ct.of (by decide) rfl ?_
  intro p e s m args below meth c A H locs ls Qf cf hr hlk hnm hQ hw hl
  have hx := cf.1
  have hb := cf.2.1
  have hml := cf.2.2.1
  have hown := cf.2.2.2.1
  have hts := cf.2.2.2.2
  have hw : WD g A s H locs [bO a 7 fs, bI g (ad 0) 60 d, bI g (ad 5) 1344 cdf, bI g (ad 6) 14 kf, bI g (ad 7) 14 sf, bI g (ad 9) 96 pl] := hw
  have hl : lv_has ls 3 [(0, .ref a), (1, .int x)] := hl
  refine lv_aload_n hx hb dX7_load_0 rfl (lv_at hl 0 rfl) ?_
  refine lv_iload_n hx hb dX7_load_1 rfl (lv_at hl 1 rfl) ?_
  refine s_calli (runV cf (m_isHouse (d := d) hf x) hw [0, 1] (by decide) rfl km_X7_isHouse ki_X7_isHouse q1059 (run_recv (ci := 7) (T := TX7) (N := 39) hw 0 rfl rfl) rfl rfl hl.1 rfl dX7_load_2) hw [0, 1] (by decide) rfl (fun _ => rfl) (fun r_3 u_1 H locs hp_2 hw => ?_)
  have hw : WD g A s H locs [bO a 7 fs, bI g (ad 0) 60 d, bI g (ad 5) 1344 cdf, bI g (ad 6) 14 kf, bI g (ad 7) 14 sf, bI g (ad 9) 96 pl] := hw
  subst hp_2
  refine lv_if_ne (tgt := 11) hx hb dX7_load_5 (by decide) (fun c5 => ?_) (fun c5 => ?_)
  · have c5 := b01_n c5
    obtain ⟨j, hjn, hxj, hcl⟩ := isH_nat hn hn10 c5
    subst hxj
    refine lv_aload_n hx hb dX7_load_11 rfl (lv_at hl 0 rfl) ?_
    refine lv_iload_n hx hb dX7_load_12 rfl (lv_at hl 1 rfl) ?_
    refine lv_iconst (v := 3) hx hb dX7_load_13 (by decide) ?_
    refine s_calli (runV cf (m_of (d := d) hf j 3 (by omega)) hw [0, 1] (by decide) rfl km_X7_of ki_X7_of q1076 (run_recv (ci := 7) (T := TX7) (N := 39) hw 0 rfl rfl) rfl rfl hl.1 rfl dX7_load_14) hw [0, 1] (by decide) rfl (fun _ => rfl) (fun r_6 u_4 H locs hp_5 hw => ?_)
    have hw : WD g A s H locs [bO a 7 fs, bI g (ad 0) 60 d, bI g (ad 5) 1344 cdf, bI g (ad 6) 14 kf, bI g (ad 7) 14 sf, bI g (ad 9) 96 pl] := hw
    subst hp_5
    refine lv_istore_n (lv' := [(2, .int (d (10 + 5 * j + 3))), (0, .ref a), (1, .int (nI j))]) hx hb dX7_load_17 rfl hl (by decide) rfl (fun ls hl => ?_)
    refine lv_aload_n hx hb dX7_load_18 rfl (lv_at hl 1 rfl) ?_
    refine lv_iload_n hx hb dX7_load_19 rfl (lv_at hl 2 rfl) ?_
    refine s_callv (runV cf (m_delivers (d := d) (cdf := cdf) (kf := kf) (sf := sf) (pl := pl) (ft := ft) hf hT j (by omega)) hw [0, 1, 2, 3, 4, 5] (by decide) rfl km_X7_delivers ki_X7_delivers q1166 (run_recv (ci := 7) (T := TX7) (N := 39) hw 0 rfl rfl) rfl rfl hl.1 rfl dX7_load_20) hw [0, 1, 2, 3, 4, 5] (by decide) rfl (fun _ => rfl) (fun u_7 H locs hp_8 hw => ?_)
    have hw : WD g A s H locs [bO a 7 fs, bI g (ad 0) 60 (deliverF ft d j), bI g (ad 5) 1344 cdf, bI g (ad 6) 14 kf, bI g (ad 7) 14 sf, bI g (ad 9) 96 u_7] := hw
    refine lv_aload_n hx hb dX7_load_23 rfl (lv_at hl 1 rfl) ?_
    refine lv_iload_n hx hb dX7_load_24 rfl (lv_at hl 2 rfl) ?_
    refine lv_iconst (v := 3) hx hb dX7_load_25 (by decide) ?_
    refine s_calli (runV cf (m_of (d := deliverF ft d j) hf j 3 (by omega)) hw [0, 1] (by decide) rfl km_X7_of ki_X7_of q1076 (run_recv (ci := 7) (T := TX7) (N := 39) hw 0 rfl rfl) rfl rfl hl.1 rfl dX7_load_26) hw [0, 1] (by decide) rfl (fun _ => rfl) (fun r_11 u_9 H locs hp_10 hw => ?_)
    have hw : WD g A s H locs [bO a 7 fs, bI g (ad 0) 60 (deliverF ft d j), bI g (ad 5) 1344 cdf, bI g (ad 6) 14 kf, bI g (ad 7) 14 sf, bI g (ad 9) 96 u_7] := hw
    subst hp_10
    refine lv_iload_n hx hb dX7_load_29 rfl (lv_at hl 0 rfl) ?_
    refine lv_isub hx hb dX7_load_30 ?_
    exact s_iret cf hr hlk u_7 (by have q : D_load ft d (nI j) = deliverF ft d j := (by unfold D_load; rw [if_pos c5, hcl]); rw [q]; exact hw) (by unfold R_load; rw [if_pos c5, hcl]) (Nat.le_of_ble_eq_true rfl) (Nat.le_of_ble_eq_true rfl) dX7_load_31 hQ
  · have c5 := b01_z c5
    refine lv_ldc hx hb hown (hts _ q1049) dX7_load_8 ?_
    exact s_iret cf hr hlk pl (by have q : D_load ft d x = d := (by unfold D_load; rw [if_neg c5]); rw [q]; exact hw) (by unfold R_load; rw [if_neg c5]) (Nat.le_of_ble_eq_true rfl) (Nat.le_of_ble_eq_true rfl) dX7_load_10 hQ
set_option maxRecDepth 100000 in
set_option maxHeartbeats 4000000 in
theorem m_nights {l : Launch} {g : GG} {a : Nat} {ad : Nat → Nat} {fs : List Value} (hf : MF ad fs) {d cdf kf sf pl : DD} {ft : TXC} (hT : TxOK d kf sf cdf 0 ft) {n : Nat} (hn : d 0 = nI n) (hn10 : n ≤ 10) {ni : Nat} (hni : d 1 = nI ni) (hni9 : ni ≤ 9999) (n_ : Int32) : Ct l g yX7_nights cX7_nights 3 (Option.some Jvm.ClassFile.FieldType.int) 7 0 0 [.ref a, .int n_] [bO a 7 fs, bI g (ad 0) 60 d, bI g (ad 5) 1344 cdf, bI g (ad 6) 14 kf, bI g (ad 7) 14 sf, bI g (ad 9) 96 pl] (QI g (fun r (_ : DD) => r = R_nights ft d n_) (fun u => [bO a 7 fs, bI g (ad 0) 60 (D_nights ft d n_), bI g (ad 5) 1344 cdf, bI g (ad 6) 14 kf, bI g (ad 7) 14 sf, bI g (ad 9) 96 u])) := by
  refine Ct.of (by decide) rfl ?_
  intro p e s m args below meth c A H locs ls Qf cf hr hlk hnm hQ hw hl
  have hx := cf.1
  have hb := cf.2.1
  have hml := cf.2.2.1
  have hown := cf.2.2.2.1
  have hts := cf.2.2.2.2
  have hw : WD g A s H locs [bO a 7 fs, bI g (ad 0) 60 d, bI g (ad 5) 1344 cdf, bI g (ad 6) 14 kf, bI g (ad 7) 14 sf, bI g (ad 9) 96 pl] := hw
  have hl : lv_has ls 3 [(0, .ref a), (1, .int n_)] := hl
  refine lv_iload_n hx hb dX7_nights_0 rfl (lv_at hl 1 rfl) ?_
  refine lv_i2l (v := (n_ : Int32).toInt64) hx hb dX7_nights_1 rfl ?_
  refine lv_lconst (v := (1 : Int32).toInt64) hx hb dX7_nights_2 (by decide) ?_
  refine lv_ldc2 hx hb hown (hts _ q1137) dX7_nights_3 ?_
  refine lv_toplr (y := (100 : Int32).toInt64) (by decide) ?_
  refine s_calli (runS cf (m_in (n_ : Int32) (1 : Int32) (100 : Int32)) hw [] (by decide) rfl km_X7_in ks_X7_in q1045 rfl rfl hl.1 rfl dX7_nights_6) hw [] (by decide) rfl (fun _ => rfl) (fun r_3 u_1 H locs hp_2 hw => ?_)
  have hw : WD g A s H locs [bO a 7 fs, bI g (ad 0) 60 d, bI g (ad 5) 1344 cdf, bI g (ad 6) 14 kf, bI g (ad 7) 14 sf, bI g (ad 9) 96 pl] := hw
  subst hp_2
  refine lv_if_ne (tgt := 15) hx hb dX7_nights_9 (by decide) (fun c9 => ?_) (fun c9 => ?_)
  · have c9 := b01_n c9
    refine lv_aload_n hx hb dX7_nights_15 rfl (lv_at hl 0 rfl) ?_
    refine s_get (v := .ref (ad 0)) fb7 cf hw 0 rfl 0 rfl q921 (hf.2 0 rfl) dX7_nights_16 ?_
    refine lv_bipush (v := 6) hx hb dX7_nights_19 (by decide) ?_
    refine s_iald (j := 6) cf hw 1 rfl (rfl) (by decide) rfl dX7_nights_21 ?_
    refine lv_istore_n (lv' := [(2, .int (d 6)), (0, .ref a), (1, .int n_)]) hx hb dX7_nights_22 rfl hl (by decide) rfl (fun ls hl => ?_)
    refine lv_aload_n hx hb dX7_nights_23 rfl (lv_at hl 1 rfl) ?_
    refine lv_iload_n hx hb dX7_nights_24 rfl (lv_at hl 2 rfl) ?_
    refine lv_iconst (v := 0) hx hb dX7_nights_25 (by decide) ?_
    refine lv_sipush (v := 9999) hx hb dX7_nights_26 (by decide) ?_
    refine lv_aload_n hx hb dX7_nights_29 rfl (lv_at hl 1 rfl) ?_
    refine s_get (v := .ref (ad 0)) fb7 cf hw 0 rfl 0 rfl q921 (hf.2 0 rfl) dX7_nights_30 ?_
    refine lv_iconst (v := 1) hx hb dX7_nights_33 (by decide) ?_
    refine s_iald (j := 1) cf hw 1 rfl (rfl) (by decide) rfl dX7_nights_34 ?_
    refine lv_isub hx hb dX7_nights_35 ?_
    refine s_calli (runS cf (m_held n_ 0 (9999 - (d 1))) hw [] (by decide) rfl km_X7_held ks_X7_held q1090 rfl rfl hl.1 rfl dX7_nights_36) hw [] (by decide) rfl (fun _ => rfl) (fun r_6 u_4 H locs hp_5 hw => ?_)
    have hw : WD g A s H locs [bO a 7 fs, bI g (ad 0) 60 d, bI g (ad 5) 1344 cdf, bI g (ad 6) 14 kf, bI g (ad 7) 14 sf, bI g (ad 9) 96 pl] := hw
    subst hp_5
    have hk := nightN_nat hni hni9 c9.1 c9.2
    refine lv_topr (y := nI (nightN d n_)) (hk.1) ?_
    refine s_callv (runV cf (m_nightsGo (d := d) (cdf := cdf) (kf := kf) (sf := sf) (pl := pl) (ft := ft) hf hT (n := n) hn hn10 (ni := ni) hni (nightN d n_) (by omega)) hw [0, 1, 2, 3, 4, 5] (by decide) rfl km_X7_nightsGo ki_X7_nightsGo q1174 (run_recv (ci := 7) (T := TX7) (N := 39) hw 0 rfl rfl) rfl rfl hl.1 rfl dX7_nights_39) hw [0, 1, 2, 3, 4, 5] (by decide) rfl (fun _ => rfl) (fun u_7 H locs hp_8 hw => ?_)
    have hw : WD g A s H locs [bO a 7 fs, bI g (ad 0) 60 (nightsF ft (nightN d n_) d), bI g (ad 5) 1344 cdf, bI g (ad 6) 14 kf, bI g (ad 7) 14 sf, bI g (ad 9) 96 u_7] := hw
    refine lv_aload_n hx hb dX7_nights_42 rfl (lv_at hl 1 rfl) ?_
    refine s_get (v := .ref (ad 0)) fb7 cf hw 0 rfl 0 rfl q921 (hf.2 0 rfl) dX7_nights_43 ?_
    refine lv_bipush (v := 6) hx hb dX7_nights_46 (by decide) ?_
    refine s_iald (j := 6) cf hw 1 rfl (rfl) (by decide) rfl dX7_nights_48 ?_
    refine lv_iload_n hx hb dX7_nights_49 rfl (lv_at hl 0 rfl) ?_
    refine lv_isub hx hb dX7_nights_50 ?_
    exact s_iret cf hr hlk u_7 (by have q : D_nights ft d n_ = nightsF ft (nightN d n_) d := (by unfold D_nights; rw [if_pos c9]); rw [q]; exact hw) (by unfold R_nights; rw [if_pos c9]) (Nat.le_of_ble_eq_true rfl) (Nat.le_of_ble_eq_true rfl) dX7_nights_51 hQ
  · have c9 := b01_z c9
    refine lv_ldc hx hb hown (hts _ q1049) dX7_nights_12 ?_
    exact s_iret cf hr hlk pl (by have q : D_nights ft d n_ = d := (by unfold D_nights; rw [if_neg c9]); rw [q]; exact hw) (by unfold R_nights; rw [if_neg c9]) (Nat.le_of_ble_eq_true rfl) (Nat.le_of_ble_eq_true rfl) dX7_nights_14 hQ
set_option maxRecDepth 100000 in
set_option maxHeartbeats 4000000 in
theorem m_terrace {l : Launch} {g : GG} {a : Nat} {ad : Nat → Nat} {fs : List Value} (hf : MF ad fs) {d : DD} {n : Nat} (hn : d 0 = nI n) (hn10 : n ≤ 10) (w : Int32) : Ct l g yX7_terrace cX7_terrace 2 (Option.some Jvm.ClassFile.FieldType.int) 2 0 0 [.ref a, .int w] [bO a 7 fs, bI g (ad 0) 60 d] (QI g (fun r (_ : Unit) => r = R_terr d w) (fun _ => [bO a 7 fs, bI g (ad 0) 60 d])) := by
  refine Ct.of (by decide) rfl ?_
  intro p e s m args below meth c A H locs ls Qf cf hr hlk hnm hQ hw hl
  have hx := cf.1
  have hb := cf.2.1
  have hml := cf.2.2.1
  have hown := cf.2.2.2.1
  have hts := cf.2.2.2.2
  have hw : WD g A s H locs [bO a 7 fs, bI g (ad 0) 60 d] := hw
  have hl : lv_has ls 2 [(0, .ref a), (1, .int w)] := hl
  refine lv_iload_n hx hb dX7_terrace_0 rfl (lv_at hl 1 rfl) ?_
  by_cases t1_0 : w = 0
  · refine lv_tableIn (tgt := 44) (off := 43) hx hb dX7_terrace_1 (by rw [t1_0]; decide) (by rw [t1_0]; decide) (by rw [t1_0]; decide) (by decide) ?_
    refine lv_aload_n hx hb dX7_terrace_44 rfl (lv_at hl 0 rfl) ?_
    refine s_get (v := .ref (ad 0)) fb7 cf hw 0 rfl 0 rfl q921 (hf.2 0 rfl) dX7_terrace_45 ?_
    refine lv_bipush (v := 6) hx hb dX7_terrace_48 (by decide) ?_
    refine s_iald (j := 6) cf hw 1 rfl (rfl) (by decide) rfl dX7_terrace_50 ?_
    exact s_iret cf hr hlk () hw (by unfold R_terr; rw [if_pos t1_0]) (Nat.le_of_ble_eq_true rfl) (Nat.le_of_ble_eq_true rfl) dX7_terrace_51 hQ
  by_cases t1_1 : w = 1
  · refine lv_tableIn (tgt := 52) (off := 51) hx hb dX7_terrace_1 (by rw [t1_1]; decide) (by rw [t1_1]; decide) (by rw [t1_1]; decide) (by decide) ?_
    refine lv_aload_n hx hb dX7_terrace_52 rfl (lv_at hl 0 rfl) ?_
    refine s_get (v := .ref (ad 0)) fb7 cf hw 0 rfl 0 rfl q921 (hf.2 0 rfl) dX7_terrace_53 ?_
    refine lv_bipush (v := 7) hx hb dX7_terrace_56 (by decide) ?_
    refine s_iald (j := 7) cf hw 1 rfl (rfl) (by decide) rfl dX7_terrace_58 ?_
    exact s_iret cf hr hlk () hw (by unfold R_terr; rw [if_neg t1_0, if_pos t1_1]) (Nat.le_of_ble_eq_true rfl) (Nat.le_of_ble_eq_true rfl) dX7_terrace_59 hQ
  by_cases t1_2 : w = 2
  · refine lv_tableIn (tgt := 60) (off := 59) hx hb dX7_terrace_1 (by rw [t1_2]; decide) (by rw [t1_2]; decide) (by rw [t1_2]; decide) (by decide) ?_
    refine lv_aload_n hx hb dX7_terrace_60 rfl (lv_at hl 0 rfl) ?_
    refine s_calli (runV cf (m_coldOnes (d := d) hf (n := n) hn hn10) hw [0, 1] (by decide) rfl km_X7_coldOnes ki_X7_coldOnes q1186 (run_recv (ci := 7) (T := TX7) (N := 39) hw 0 rfl rfl) rfl rfl hl.1 rfl dX7_terrace_61) hw [0, 1] (by decide) rfl (fun _ => rfl) (fun r_3 u_1 H locs hp_2 hw => ?_)
    have hw : WD g A s H locs [bO a 7 fs, bI g (ad 0) 60 d] := hw
    subst hp_2
    exact s_iret cf hr hlk () hw (by unfold R_terr; rw [if_neg t1_0, if_neg t1_1, if_pos t1_2]) (Nat.le_of_ble_eq_true rfl) (Nat.le_of_ble_eq_true rfl) dX7_terrace_64 hQ
  by_cases t1_3 : w = 3
  · refine lv_tableIn (tgt := 65) (off := 64) hx hb dX7_terrace_1 (by rw [t1_3]; decide) (by rw [t1_3]; decide) (by rw [t1_3]; decide) (by decide) ?_
    refine lv_aload_n hx hb dX7_terrace_65 rfl (lv_at hl 0 rfl) ?_
    refine s_get (v := .ref (ad 0)) fb7 cf hw 0 rfl 0 rfl q921 (hf.2 0 rfl) dX7_terrace_66 ?_
    refine lv_iconst (v := 5) hx hb dX7_terrace_69 (by decide) ?_
    refine s_iald (j := 5) cf hw 1 rfl (rfl) (by decide) rfl dX7_terrace_70 ?_
    exact s_iret cf hr hlk () hw (by unfold R_terr; rw [if_neg t1_0, if_neg t1_1, if_neg t1_2, if_pos t1_3]) (Nat.le_of_ble_eq_true rfl) (Nat.le_of_ble_eq_true rfl) dX7_terrace_71 hQ
  by_cases t1_4 : w = 4
  · refine lv_tableIn (tgt := 72) (off := 71) hx hb dX7_terrace_1 (by rw [t1_4]; decide) (by rw [t1_4]; decide) (by rw [t1_4]; decide) (by decide) ?_
    refine lv_aload_n hx hb dX7_terrace_72 rfl (lv_at hl 0 rfl) ?_
    refine lv_iconst (v := 3) hx hb dX7_terrace_73 (by decide) ?_
    refine s_calli (runV cf (m_sumOf (d := d) hf (n := n) hn hn10 3 (by omega)) hw [0, 1] (by decide) rfl km_X7_sumOf ki_X7_sumOf q1190 (run_recv (ci := 7) (T := TX7) (N := 39) hw 0 rfl rfl) rfl rfl hl.1 rfl dX7_terrace_74) hw [0, 1] (by decide) rfl (fun _ => rfl) (fun r_6 u_4 H locs hp_5 hw => ?_)
    have hw : WD g A s H locs [bO a 7 fs, bI g (ad 0) 60 d] := hw
    subst hp_5
    exact s_iret cf hr hlk () hw (by unfold R_terr; rw [if_neg t1_0, if_neg t1_1, if_neg t1_2, if_neg t1_3, if_pos t1_4]) (Nat.le_of_ble_eq_true rfl) (Nat.le_of_ble_eq_true rfl) dX7_terrace_77 hQ
  by_cases t1_5 : w = 5
  · refine lv_tableIn (tgt := 78) (off := 77) hx hb dX7_terrace_1 (by rw [t1_5]; decide) (by rw [t1_5]; decide) (by rw [t1_5]; decide) (by decide) ?_
    refine lv_aload_n hx hb dX7_terrace_78 rfl (lv_at hl 0 rfl) ?_
    refine lv_iconst (v := 1) hx hb dX7_terrace_79 (by decide) ?_
    refine s_calli (runV cf (m_sumOf (d := d) hf (n := n) hn hn10 1 (by omega)) hw [0, 1] (by decide) rfl km_X7_sumOf ki_X7_sumOf q1190 (run_recv (ci := 7) (T := TX7) (N := 39) hw 0 rfl rfl) rfl rfl hl.1 rfl dX7_terrace_80) hw [0, 1] (by decide) rfl (fun _ => rfl) (fun r_9 u_7 H locs hp_8 hw => ?_)
    have hw : WD g A s H locs [bO a 7 fs, bI g (ad 0) 60 d] := hw
    subst hp_8
    exact s_iret cf hr hlk () hw (by unfold R_terr; rw [if_neg t1_0, if_neg t1_1, if_neg t1_2, if_neg t1_3, if_neg t1_4, if_pos t1_5]) (Nat.le_of_ble_eq_true rfl) (Nat.le_of_ble_eq_true rfl) dX7_terrace_83 hQ
  by_cases t1_6 : w = 6
  · refine lv_tableIn (tgt := 84) (off := 83) hx hb dX7_terrace_1 (by rw [t1_6]; decide) (by rw [t1_6]; decide) (by rw [t1_6]; decide) (by decide) ?_
    refine lv_aload_n hx hb dX7_terrace_84 rfl (lv_at hl 0 rfl) ?_
    refine s_calli (runV cf (m_loudest (d := d) hf (n := n) hn hn10) hw [0, 1] (by decide) rfl km_X7_loudest ki_X7_loudest q1194 (run_recv (ci := 7) (T := TX7) (N := 39) hw 0 rfl rfl) rfl rfl hl.1 rfl dX7_terrace_85) hw [0, 1] (by decide) rfl (fun _ => rfl) (fun r_12 u_10 H locs hp_11 hw => ?_)
    have hw : WD g A s H locs [bO a 7 fs, bI g (ad 0) 60 d] := hw
    subst hp_11
    exact s_iret cf hr hlk () hw (by unfold R_terr; rw [if_neg t1_0, if_neg t1_1, if_neg t1_2, if_neg t1_3, if_neg t1_4, if_neg t1_5, if_pos t1_6]; unfold loudestF; rw [nH_of hn hn10]) (Nat.le_of_ble_eq_true rfl) (Nat.le_of_ble_eq_true rfl) dX7_terrace_88 hQ
  refine lv_tableOut (tgt := 89) hx hb dX7_terrace_1 (by have e0 := lv_neT t1_0 (show (0 : Int32).toInt = 0 from rfl); have e1 := lv_neT t1_1 (show (1 : Int32).toInt = 1 from rfl); have e2 := lv_neT t1_2 (show (2 : Int32).toInt = 2 from rfl); have e3 := lv_neT t1_3 (show (3 : Int32).toInt = 3 from rfl); have e4 := lv_neT t1_4 (show (4 : Int32).toInt = 4 from rfl); have e5 := lv_neT t1_5 (show (5 : Int32).toInt = 5 from rfl); have e6 := lv_neT t1_6 (show (6 : Int32).toInt = 6 from rfl); omega) (by decide) ?_
  refine lv_ldc hx hb hown (hts _ q1049) dX7_terrace_89 ?_
  exact s_iret cf hr hlk () hw (by unfold R_terr; rw [if_neg t1_0, if_neg t1_1, if_neg t1_2, if_neg t1_3, if_neg t1_4, if_neg t1_5, if_neg t1_6]) (Nat.le_of_ble_eq_true rfl) (Nat.le_of_ble_eq_true rfl) dX7_terrace_91 hQ
