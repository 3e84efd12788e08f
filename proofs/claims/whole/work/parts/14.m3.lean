set_option maxRecDepth 100000 in
set_option maxHeartbeats 4000000 in
theorem m_plain {l : Launch} {g : GG} {a : Nat} {ad : Nat → Nat} {fs : List Value} (hf : MF ad fs) {d cdf kf sf pl : DD} {ft : TXC} (hT : TxOK d kf sf cdf 0 ft) (h : Nat) (hh : h < 10) : Ct l g yX7_plain cX7_plain 3 (Option.some Jvm.ClassFile.FieldType.int) 2 0 0 [.ref a, .int (nI h)] [bO a 7 fs, bI g (ad 0) 60 d, bI g (ad 5) 1344 cdf, bI g (ad 6) 14 kf, bI g (ad 7) 14 sf, bI g (ad 9) 96 pl] (QI g (fun r (_ : DD) => r = plainF ft d h) (fun u => [bO a 7 fs, bI g (ad 0) 60 d, bI g (ad 5) 1344 cdf, bI g (ad 6) 14 kf, bI g (ad 7) 14 sf, bI g (ad 9) 96 u])) := by
  refine Ct.of (by decide) rfl ?_
  intro p e s m args below meth c A H locs ls Qf cf hr hlk hnm hQ hw hl
  have hx := cf.1
  have hb := cf.2.1
  have hml := cf.2.2.1
  have hown := cf.2.2.2.1
  have hts := cf.2.2.2.2
  have hw : WD g A s H locs [bO a 7 fs, bI g (ad 0) 60 d, bI g (ad 5) 1344 cdf, bI g (ad 6) 14 kf, bI g (ad 7) 14 sf, bI g (ad 9) 96 pl] := hw
  have hl : lv_has ls 3 [(0, .ref a), (1, .int (nI h))] := hl
  obtain ⟨nt, hnt, hnt14, hcase⟩ := hT
  refine lv_aload_n hx hb dX7_plain_0 rfl (lv_at hl 0 rfl) ?_
  refine lv_iconst (v := 0) hx hb dX7_plain_1 (by decide) ?_
  refine s_calli (runV cf (m_counts (d := d) (kf := kf) hf 0 nt hnt hnt14) hw [0, 1, 3] (by decide) rfl km_X7_counts ki_X7_counts q1072 (run_recv (ci := 7) (T := TX7) (N := 39) hw 0 rfl rfl) rfl rfl hl.1 rfl dX7_plain_2) hw [0, 1, 3] (by decide) rfl (fun _ => rfl) (fun r_3 u_1 H locs hp_2 hw => ?_)
  have hw : WD g A s H locs [bO a 7 fs, bI g (ad 0) 60 d, bI g (ad 5) 1344 cdf, bI g (ad 6) 14 kf, bI g (ad 7) 14 sf, bI g (ad 9) 96 pl] := hw
  subst hp_2
  rcases hq : cntF kf 0 nt with _ | t
  · rw [hq] at hcase
    simp only at hcase
    subst hcase
    refine lv_topr (y := -1) (by rfl) ?_
    refine lv_istore_n (lv' := [(2, .int (-1)), (0, .ref a), (1, .int (nI h))]) hx hb dX7_plain_5 rfl hl (by decide) rfl (fun ls hl => ?_)
    refine lv_iload_n hx hb dX7_plain_6 rfl (lv_at hl 0 rfl) ?_
    refine lv_if_ge (tgt := 29) hx hb dX7_plain_7 (by decide) (fun c7 => ?_) (fun c7 => ?_)
    · exact absurd c7 (by decide)
    · refine lv_aload_n hx hb dX7_plain_10 rfl (lv_at hl 1 rfl) ?_
      refine lv_iload_n hx hb dX7_plain_11 rfl (lv_at hl 2 rfl) ?_
      refine lv_iconst (v := 1) hx hb dX7_plain_12 (by decide) ?_
      refine s_calli (runV cf (m_of (d := d) hf h 1 (by omega)) hw [0, 1] (by decide) rfl km_X7_of ki_X7_of q1076 (run_recv (ci := 7) (T := TX7) (N := 39) hw 0 rfl rfl) rfl rfl hl.1 rfl dX7_plain_13) hw [0, 1] (by decide) rfl (fun _ => rfl) (fun r_6 u_4 H locs hp_5 hw => ?_)
      have hw : WD g A s H locs [bO a 7 fs, bI g (ad 0) 60 d, bI g (ad 5) 1344 cdf, bI g (ad 6) 14 kf, bI g (ad 7) 14 sf, bI g (ad 9) 96 pl] := hw
      subst hp_5
      refine lv_aload_n hx hb dX7_plain_16 rfl (lv_at hl 1 rfl) ?_
      refine lv_iload_n hx hb dX7_plain_17 rfl (lv_at hl 2 rfl) ?_
      refine lv_iconst (v := 2) hx hb dX7_plain_18 (by decide) ?_
      refine s_calli (runV cf (m_of (d := d) hf h 2 (by omega)) hw [0, 1] (by decide) rfl km_X7_of ki_X7_of q1076 (run_recv (ci := 7) (T := TX7) (N := 39) hw 0 rfl rfl) rfl rfl hl.1 rfl dX7_plain_19) hw [0, 1] (by decide) rfl (fun _ => rfl) (fun r_9 u_7 H locs hp_8 hw => ?_)
      have hw : WD g A s H locs [bO a 7 fs, bI g (ad 0) 60 d, bI g (ad 5) 1344 cdf, bI g (ad 6) 14 kf, bI g (ad 7) 14 sf, bI g (ad 9) 96 pl] := hw
      subst hp_8
      refine lv_isub hx hb dX7_plain_22 ?_
      refine s_calli (runS cf (m_size ((d (10 + 5 * h + 1)) - (d (10 + 5 * h + 2)))) hw [] (by decide) rfl km_X7_size ks_X7_size q1080 rfl rfl hl.1 rfl dX7_plain_23) hw [] (by decide) rfl (fun _ => rfl) (fun r_12 u_10 H locs hp_11 hw => ?_)
      have hw : WD g A s H locs [bO a 7 fs, bI g (ad 0) 60 d, bI g (ad 5) 1344 cdf, bI g (ad 6) 14 kf, bI g (ad 7) 14 sf, bI g (ad 9) 96 pl] := hw
      subst hp_11
      refine lv_goto (tgt := 64) hx hb dX7_plain_26 (by decide) ?_
      exact s_iret cf hr hlk pl hw (by rfl) (Nat.le_of_ble_eq_true rfl) (Nat.le_of_ble_eq_true rfl) dX7_plain_64 hQ
  · rw [hq] at hcase
    obtain ⟨len, tc, hft, hsf, hcf, hok⟩ := hcase
    subst hft
    have ht : t < 14 := by have := (cntF_lt hq).1; omega
    refine lv_topr (y := nI t) (by rfl) ?_
    refine lv_istore_n (lv' := [(2, .int (nI t)), (0, .ref a), (1, .int (nI h))]) hx hb dX7_plain_5 rfl hl (by decide) rfl (fun ls hl => ?_)
    refine lv_iload_n hx hb dX7_plain_6 rfl (lv_at hl 0 rfl) ?_
    refine lv_if_ge (tgt := 29) hx hb dX7_plain_7 (by decide) (fun c7 => ?_) (fun c7 => ?_)
    · refine lv_aload_n hx hb dX7_plain_29 rfl (lv_at hl 1 rfl) ?_
      refine lv_iload_n hx hb dX7_plain_30 rfl (lv_at hl 0 rfl) ?_
      refine lv_aload_n hx hb dX7_plain_31 rfl (lv_at hl 1 rfl) ?_
      refine lv_iload_n hx hb dX7_plain_32 rfl (lv_at hl 2 rfl) ?_
      refine lv_iconst (v := 1) hx hb dX7_plain_33 (by decide) ?_
      refine s_calli (runV cf (m_of (d := d) hf h 1 (by omega)) hw [0, 1] (by decide) rfl km_X7_of ki_X7_of q1076 (run_recv (ci := 7) (T := TX7) (N := 39) hw 0 rfl rfl) rfl rfl hl.1 rfl dX7_plain_34) hw [0, 1] (by decide) rfl (fun _ => rfl) (fun r_15 u_13 H locs hp_14 hw => ?_)
      have hw : WD g A s H locs [bO a 7 fs, bI g (ad 0) 60 d, bI g (ad 5) 1344 cdf, bI g (ad 6) 14 kf, bI g (ad 7) 14 sf, bI g (ad 9) 96 pl] := hw
      subst hp_14
      refine lv_aload_n hx hb dX7_plain_37 rfl (lv_at hl 1 rfl) ?_
      refine lv_iload_n hx hb dX7_plain_38 rfl (lv_at hl 2 rfl) ?_
      refine lv_iconst (v := 2) hx hb dX7_plain_39 (by decide) ?_
      refine s_calli (runV cf (m_of (d := d) hf h 2 (by omega)) hw [0, 1] (by decide) rfl km_X7_of ki_X7_of q1076 (run_recv (ci := 7) (T := TX7) (N := 39) hw 0 rfl rfl) rfl rfl hl.1 rfl dX7_plain_40) hw [0, 1] (by decide) rfl (fun _ => rfl) (fun r_18 u_16 H locs hp_17 hw => ?_)
      have hw : WD g A s H locs [bO a 7 fs, bI g (ad 0) 60 d, bI g (ad 5) 1344 cdf, bI g (ad 6) 14 kf, bI g (ad 7) 14 sf, bI g (ad 9) 96 pl] := hw
      subst hp_17
      refine lv_aload_n hx hb dX7_plain_43 rfl (lv_at hl 1 rfl) ?_
      refine lv_iload_n hx hb dX7_plain_44 rfl (lv_at hl 2 rfl) ?_
      refine lv_iconst (v := 3) hx hb dX7_plain_45 (by decide) ?_
      refine s_calli (runV cf (m_of (d := d) hf h 3 (by omega)) hw [0, 1] (by decide) rfl km_X7_of ki_X7_of q1076 (run_recv (ci := 7) (T := TX7) (N := 39) hw 0 rfl rfl) rfl rfl hl.1 rfl dX7_plain_46) hw [0, 1] (by decide) rfl (fun _ => rfl) (fun r_21 u_19 H locs hp_20 hw => ?_)
      have hw : WD g A s H locs [bO a 7 fs, bI g (ad 0) 60 d, bI g (ad 5) 1344 cdf, bI g (ad 6) 14 kf, bI g (ad 7) 14 sf, bI g (ad 9) 96 pl] := hw
      subst hp_20
      refine lv_aload_n hx hb dX7_plain_49 rfl (lv_at hl 1 rfl) ?_
      refine s_get (v := .ref (ad 0)) fb7 cf hw 0 rfl 0 rfl q921 (hf.2 0 rfl) dX7_plain_50 ?_
      refine lv_iconst (v := 0) hx hb dX7_plain_53 (by decide) ?_
      refine s_iald (j := 0) cf hw 1 rfl (rfl) (by decide) rfl dX7_plain_54 ?_
      refine s_calli (runV cf (m_gives (cdf := cdf) (sf := sf) (pl := pl) hf t (d (10 + 5 * h + 1)) (d (10 + 5 * h + 2)) (d (10 + 5 * h + 3)) (d 0) ht hsf hcf hok) hw [0, 2, 4, 5] (by decide) rfl km_X7_gives ki_X7_gives q1083 (run_recv (ci := 7) (T := TX7) (N := 39) hw 0 rfl rfl) rfl rfl hl.1 rfl dX7_plain_55) hw [0, 2, 4, 5] (by decide) rfl (fun _ => rfl) (fun r_24 u_22 H locs hp_23 hw => ?_)
      have hw : WD g A s H locs [bO a 7 fs, bI g (ad 0) 60 d, bI g (ad 5) 1344 cdf, bI g (ad 6) 14 kf, bI g (ad 7) 14 sf, bI g (ad 9) 96 u_22] := hw
      subst hp_23
      refine lv_iconst (v := 0) hx hb dX7_plain_58 (by decide) ?_
      refine lv_bipush (v := 99) hx hb dX7_plain_59 (by decide) ?_
      refine s_calli (runS cf (m_held (evalF (nmF (d (10 + 5 * h + 1)) (d (10 + 5 * h + 2)) (d (10 + 5 * h + 3)) (d 0)) len tc) 0 99) hw [] (by decide) rfl km_X7_held ks_X7_held q1090 rfl rfl hl.1 rfl dX7_plain_61) hw [] (by decide) rfl (fun _ => rfl) (fun r_27 u_25 H locs hp_26 hw => ?_)
      have hw : WD g A s H locs [bO a 7 fs, bI g (ad 0) 60 d, bI g (ad 5) 1344 cdf, bI g (ad 6) 14 kf, bI g (ad 7) 14 sf, bI g (ad 9) 96 u_22] := hw
      subst hp_26
      exact s_iret cf hr hlk u_22 hw (by rfl) (Nat.le_of_ble_eq_true rfl) (Nat.le_of_ble_eq_true rfl) dX7_plain_64 hQ
    · exact absurd (nI_pos' (by omega)) c7
set_option maxRecDepth 100000 in
set_option maxHeartbeats 4000000 in
theorem m_slack {l : Launch} {g : GG} {a : Nat} {ad : Nat → Nat} {fs : List Value} (hf : MF ad fs) {d cdf kf sf pl : DD} {ft : TXC} (hT : TxOK d kf sf cdf 0 ft) (h : Nat) (hh : h < 10) : Ct l g yX7_slack cX7_slack 4 (Option.some Jvm.ClassFile.FieldType.int) 3 0 0 [.ref a, .int (nI h)] [bO a 7 fs, bI g (ad 0) 60 d, bI g (ad 5) 1344 cdf, bI g (ad 6) 14 kf, bI g (ad 7) 14 sf, bI g (ad 9) 96 pl] (QI g (fun r (_ : DD) => r = slackF ft d h) (fun u => [bO a 7 fs, bI g (ad 0) 60 d, bI g (ad 5) 1344 cdf, bI g (ad 6) 14 kf, bI g (ad 7) 14 sf, bI g (ad 9) 96 u])) := by
  refine Ct.of (by decide) rfl ?_
  intro p e s m args below meth c A H locs ls Qf cf hr hlk hnm hQ hw hl
  have hx := cf.1
  have hb := cf.2.1
  have hml := cf.2.2.1
  have hown := cf.2.2.2.1
  have hts := cf.2.2.2.2
  have hw : WD g A s H locs [bO a 7 fs, bI g (ad 0) 60 d, bI g (ad 5) 1344 cdf, bI g (ad 6) 14 kf, bI g (ad 7) 14 sf, bI g (ad 9) 96 pl] := hw
  have hl : lv_has ls 4 [(0, .ref a), (1, .int (nI h))] := hl
  refine lv_aload_n hx hb dX7_slack_0 rfl (lv_at hl 0 rfl) ?_
  refine lv_iload_n hx hb dX7_slack_1 rfl (lv_at hl 1 rfl) ?_
  refine s_calli (runV cf (m_plain (d := d) (cdf := cdf) (kf := kf) (sf := sf) (pl := pl) (ft := ft) hf hT h (by omega)) hw [0, 1, 2, 3, 4, 5] (by decide) rfl km_X7_plain ki_X7_plain q1068 (run_recv (ci := 7) (T := TX7) (N := 39) hw 0 rfl rfl) rfl rfl hl.1 rfl dX7_slack_2) hw [0, 1, 2, 3, 4, 5] (by decide) rfl (fun _ => rfl) (fun r_3 u_1 H locs hp_2 hw => ?_)
  have hw : WD g A s H locs [bO a 7 fs, bI g (ad 0) 60 d, bI g (ad 5) 1344 cdf, bI g (ad 6) 14 kf, bI g (ad 7) 14 sf, bI g (ad 9) 96 u_1] := hw
  subst hp_2
  refine lv_istore_n (lv' := [(2, .int (plainF ft d h)), (0, .ref a), (1, .int (nI h))]) hx hb dX7_slack_5 rfl hl (by decide) rfl (fun ls hl => ?_)
  refine lv_iload_n hx hb dX7_slack_6 rfl (lv_at hl 0 rfl) ?_
  refine lv_iconst (v := 2) hx hb dX7_slack_7 (by decide) ?_
  refine lv_aload_n hx hb dX7_slack_8 rfl (lv_at hl 1 rfl) ?_
  refine s_get (v := .ref (ad 0)) fb7 cf hw 0 rfl 0 rfl q921 (hf.2 0 rfl) dX7_slack_9 ?_
  refine lv_iconst (v := 5) hx hb dX7_slack_12 (by decide) ?_
  refine s_iald (j := 5) cf hw 1 rfl (rfl) (by decide) rfl dX7_slack_13 ?_
  refine lv_iconst (v := 1) hx hb dX7_slack_14 (by decide) ?_
  refine lv_iload_n hx hb dX7_slack_15 rfl (lv_at hl 2 rfl) ?_
  refine lv_ishl hx hb dX7_slack_16 ?_
  refine lv_iconst (v := (-1)) hx hb dX7_slack_17 (by decide) ?_
  refine lv_ixor hx hb dX7_slack_18 ?_
  refine lv_iand hx hb dX7_slack_19 ?_
  refine s_calli (runS cf (m_ones ((d 5) &&& (((1 : Int32) <<< ((nI h) &&& 31)) ^^^ (-1)))) hw [] (by decide) rfl km_X7_ones ks_X7_ones q1093 rfl rfl hl.1 rfl dX7_slack_20) hw [] (by decide) rfl (fun _ => rfl) (fun r_6 u_4 H locs hp_5 hw => ?_)
  have hw : WD g A s H locs [bO a 7 fs, bI g (ad 0) 60 d, bI g (ad 5) 1344 cdf, bI g (ad 6) 14 kf, bI g (ad 7) 14 sf, bI g (ad 9) 96 u_1] := hw
  subst hp_5
  refine lv_imul hx hb dX7_slack_23 ?_
  refine lv_iadd hx hb dX7_slack_24 ?_
  refine lv_iconst (v := 0) hx hb dX7_slack_25 (by decide) ?_
  refine lv_bipush (v := 99) hx hb dX7_slack_26 (by decide) ?_
  refine s_calli (runS cf (m_held ((plainF ft d h) + (2 * (onesF ((d 5) &&& (((1 : Int32) <<< ((nI h) &&& 31)) ^^^ (-1)))))) 0 99) hw [] (by decide) rfl km_X7_held ks_X7_held q1090 rfl rfl hl.1 rfl dX7_slack_28) hw [] (by decide) rfl (fun _ => rfl) (fun r_9 u_7 H locs hp_8 hw => ?_)
  have hw : WD g A s H locs [bO a 7 fs, bI g (ad 0) 60 d, bI g (ad 5) 1344 cdf, bI g (ad 6) 14 kf, bI g (ad 7) 14 sf, bI g (ad 9) 96 u_1] := hw
  subst hp_8
  refine lv_istore_n (lv' := [(3, .int (held ((plainF ft d h) + (2 * (onesF ((d 5) &&& (((1 : Int32) <<< ((nI h) &&& 31)) ^^^ (-1)))))) 0 99)), (2, .int (plainF ft d h)), (0, .ref a), (1, .int (nI h))]) hx hb dX7_slack_31 rfl hl (by decide) rfl (fun ls hl => ?_)
  refine lv_aload_n hx hb dX7_slack_32 rfl (lv_at hl 2 rfl) ?_
  refine lv_iload_n hx hb dX7_slack_33 rfl (lv_at hl 3 rfl) ?_
  refine lv_iconst (v := 0) hx hb dX7_slack_34 (by decide) ?_
  refine s_calli (runV cf (m_of (d := d) hf h 0 (by omega)) hw [0, 1] (by decide) rfl km_X7_of ki_X7_of q1076 (run_recv (ci := 7) (T := TX7) (N := 39) hw 0 rfl rfl) rfl rfl hl.1 rfl dX7_slack_35) hw [0, 1] (by decide) rfl (fun _ => rfl) (fun r_12 u_10 H locs hp_11 hw => ?_)
  have hw : WD g A s H locs [bO a 7 fs, bI g (ad 0) 60 d, bI g (ad 5) 1344 cdf, bI g (ad 6) 14 kf, bI g (ad 7) 14 sf, bI g (ad 9) 96 u_1] := hw
  subst hp_11
  by_cases t38_1 : d (10 + 5 * h + 0) = 1
  · refine lv_tableIn (tgt := 72) (off := 34) hx hb dX7_slack_38 (by rw [t38_1]; decide) (by rw [t38_1]; decide) (by rw [t38_1]; decide) (by decide) ?_
    refine lv_iload_n hx hb dX7_slack_72 rfl (lv_at hl 1 rfl) ?_
    refine lv_iconst (v := 2) hx hb dX7_slack_73 (by decide) ?_
    refine lv_idiv hx hb dX7_slack_74 (by decide) ?_
    exact s_iret cf hr hlk u_1 hw (by unfold slackF; rw [if_pos t38_1]) (Nat.le_of_ble_eq_true rfl) (Nat.le_of_ble_eq_true rfl) dX7_slack_75 hQ
  by_cases t38_2 : d (10 + 5 * h + 0) = 2
  · refine lv_tableIn (tgt := 88) (off := 50) hx hb dX7_slack_38 (by rw [t38_2]; decide) (by rw [t38_2]; decide) (by rw [t38_2]; decide) (by decide) ?_
    refine lv_iload_n hx hb dX7_slack_88 rfl (lv_at hl 0 rfl) ?_
    exact s_iret cf hr hlk u_1 hw (by unfold slackF; rw [if_neg t38_1, if_pos t38_2]; rfl) (Nat.le_of_ble_eq_true rfl) (Nat.le_of_ble_eq_true rfl) dX7_slack_89 hQ
  by_cases t38_3 : d (10 + 5 * h + 0) = 3
  · refine lv_tableIn (tgt := 76) (off := 38) hx hb dX7_slack_38 (by rw [t38_3]; decide) (by rw [t38_3]; decide) (by rw [t38_3]; decide) (by decide) ?_
    refine lv_iload_n hx hb dX7_slack_76 rfl (lv_at hl 1 rfl) ?_
    refine lv_iconst (v := 2) hx hb dX7_slack_77 (by decide) ?_
    refine lv_idiv hx hb dX7_slack_78 (by decide) ?_
    refine lv_iconst (v := 5) hx hb dX7_slack_79 (by decide) ?_
    refine lv_isub hx hb dX7_slack_80 ?_
    refine lv_iconst (v := 0) hx hb dX7_slack_81 (by decide) ?_
    refine lv_bipush (v := 99) hx hb dX7_slack_82 (by decide) ?_
    refine s_calli (runS cf (m_held (((plainF ft d h) / 2) - 5) 0 99) hw [] (by decide) rfl km_X7_held ks_X7_held q1090 rfl rfl hl.1 rfl dX7_slack_84) hw [] (by decide) rfl (fun _ => rfl) (fun r_15 u_13 H locs hp_14 hw => ?_)
    have hw : WD g A s H locs [bO a 7 fs, bI g (ad 0) 60 d, bI g (ad 5) 1344 cdf, bI g (ad 6) 14 kf, bI g (ad 7) 14 sf, bI g (ad 9) 96 u_1] := hw
    subst hp_14
    exact s_iret cf hr hlk u_1 hw (by unfold slackF; rw [if_neg t38_1, if_neg t38_2, if_pos t38_3]) (Nat.le_of_ble_eq_true rfl) (Nat.le_of_ble_eq_true rfl) dX7_slack_87 hQ
  by_cases t38_4 : d (10 + 5 * h + 0) = 4
  · refine lv_tableIn (tgt := 90) (off := 52) hx hb dX7_slack_38 (by rw [t38_4]; decide) (by rw [t38_4]; decide) (by rw [t38_4]; decide) (by decide) ?_
    refine lv_iload_n hx hb dX7_slack_90 rfl (lv_at hl 0 rfl) ?_
    refine lv_bipush (v := 10) hx hb dX7_slack_91 (by decide) ?_
    refine lv_iadd hx hb dX7_slack_93 ?_
    refine lv_iconst (v := 0) hx hb dX7_slack_94 (by decide) ?_
    refine lv_bipush (v := 99) hx hb dX7_slack_95 (by decide) ?_
    refine s_calli (runS cf (m_held ((held ((plainF ft d h) + (2 * (onesF ((d 5) &&& (((1 : Int32) <<< ((nI h) &&& 31)) ^^^ (-1)))))) 0 99) + 10) 0 99) hw [] (by decide) rfl km_X7_held ks_X7_held q1090 rfl rfl hl.1 rfl dX7_slack_97) hw [] (by decide) rfl (fun _ => rfl) (fun r_18 u_16 H locs hp_17 hw => ?_)
    have hw : WD g A s H locs [bO a 7 fs, bI g (ad 0) 60 d, bI g (ad 5) 1344 cdf, bI g (ad 6) 14 kf, bI g (ad 7) 14 sf, bI g (ad 9) 96 u_1] := hw
    subst hp_17
    exact s_iret cf hr hlk u_1 hw (by unfold slackF; rw [if_neg t38_1, if_neg t38_2, if_neg t38_3, if_pos t38_4]; rfl) (Nat.le_of_ble_eq_true rfl) (Nat.le_of_ble_eq_true rfl) dX7_slack_100 hQ
  by_cases t38_5 : d (10 + 5 * h + 0) = 5
  · refine lv_tableIn (tgt := 101) (off := 63) hx hb dX7_slack_38 (by rw [t38_5]; decide) (by rw [t38_5]; decide) (by rw [t38_5]; decide) (by decide) ?_
    refine lv_bipush (v := 50) hx hb dX7_slack_101 (by decide) ?_
    exact s_iret cf hr hlk u_1 hw (by unfold slackF; rw [if_neg t38_1, if_neg t38_2, if_neg t38_3, if_neg t38_4, if_pos t38_5]) (Nat.le_of_ble_eq_true rfl) (Nat.le_of_ble_eq_true rfl) dX7_slack_103 hQ
  refine lv_tableOut (tgt := 104) hx hb dX7_slack_38 (by have e0 := lv_neT t38_1 (show (1 : Int32).toInt = 1 from rfl); have e1 := lv_neT t38_2 (show (2 : Int32).toInt = 2 from rfl); have e2 := lv_neT t38_3 (show (3 : Int32).toInt = 3 from rfl); have e3 := lv_neT t38_4 (show (4 : Int32).toInt = 4 from rfl); have e4 := lv_neT t38_5 (show (5 : Int32).toInt = 5 from rfl); omega) (by decide) ?_
  refine lv_iload_n hx hb dX7_slack_104 rfl (lv_at hl 1 rfl) ?_
  exact s_iret cf hr hlk u_1 hw (by unfold slackF; rw [if_neg t38_1, if_neg t38_2, if_neg t38_3, if_neg t38_4, if_neg t38_5]) (Nat.le_of_ble_eq_true rfl) (Nat.le_of_ble_eq_true rfl) dX7_slack_105 hQ
set_option maxRecDepth 100000 in
set_option maxHeartbeats 4000000 in
theorem m_bends {l : Launch} {g : GG} {a : Nat} {ad : Nat → Nat} {fs : List Value} (hf : MF ad fs) {d : DD} (h : Nat) (hh : h < 10) : Ct l g yX7_bends cX7_bends 3 (Option.some Jvm.ClassFile.FieldType.int) 1 0 0 [.ref a, .int (nI h)] [bO a 7 fs, bI g (ad 0) 60 d] (QI g (fun r (_ : Unit) => r = bendsF d h) (fun _ => [bO a 7 fs, bI g (ad 0) 60 d])) := by
  refine Ct.of (by decide) rfl ?_
  intro p e s m args below meth c A H locs ls Qf cf hr hlk hnm hQ hw hl
  have hx := cf.1
  have hb := cf.2.1
  have hml := cf.2.2.1
  have hown := cf.2.2.2.1
  have hts := cf.2.2.2.2
  have hw : WD g A s H locs [bO a 7 fs, bI g (ad 0) 60 d] := hw
  have hl : lv_has ls 3 [(0, .ref a), (1, .int (nI h))] := hl
  refine lv_iconst (v := (-1)) hx hb dX7_bends_0 (by decide) ?_
  refine lv_aload_n hx hb dX7_bends_1 rfl (lv_at hl 0 rfl) ?_
  refine lv_iload_n hx hb dX7_bends_2 rfl (lv_at hl 1 rfl) ?_
  refine lv_iconst (v := 3) hx hb dX7_bends_3 (by decide) ?_
  refine s_calli (runV cf (m_of (d := d) hf h 3 (by omega)) hw [0, 1] (by decide) rfl km_X7_of ki_X7_of q1076 (run_recv (ci := 7) (T := TX7) (N := 39) hw 0 rfl rfl) rfl rfl hl.1 rfl dX7_bends_4) hw [0, 1] (by decide) rfl (fun _ => rfl) (fun r_3 u_1 H locs hp_2 hw => ?_)
  have hw : WD g A s H locs [bO a 7 fs, bI g (ad 0) 60 d] := hw
  subst hp_2
  refine lv_bipush (v := 10) hx hb dX7_bends_7 (by decide) ?_
  refine lv_idiv hx hb dX7_bends_9 (by decide) ?_
  refine lv_isub hx hb dX7_bends_10 ?_
  refine lv_istore_n (lv' := [(2, .int ((-1) - ((d (10 + 5 * h + 3)) / 10))), (0, .ref a), (1, .int (nI h))]) hx hb dX7_bends_11 rfl hl (by decide) rfl (fun ls hl => ?_)
  refine lv_aload_n hx hb dX7_bends_12 rfl (lv_at hl 1 rfl) ?_
  refine lv_iload_n hx hb dX7_bends_13 rfl (lv_at hl 2 rfl) ?_
  refine lv_iconst (v := 0) hx hb dX7_bends_14 (by decide) ?_
  refine s_calli (runV cf (m_of (d := d) hf h 0 (by omega)) hw [0, 1] (by decide) rfl km_X7_of ki_X7_of q1076 (run_recv (ci := 7) (T := TX7) (N := 39) hw 0 rfl rfl) rfl rfl hl.1 rfl dX7_bends_15) hw [0, 1] (by decide) rfl (fun _ => rfl) (fun r_6 u_4 H locs hp_5 hw => ?_)
  have hw : WD g A s H locs [bO a 7 fs, bI g (ad 0) 60 d] := hw
  subst hp_5
  by_cases t18_1 : d (10 + 5 * h + 0) = 1
  · refine lv_tableIn (tgt := 52) (off := 34) hx hb dX7_bends_18 (by rw [t18_1]; decide) (by rw [t18_1]; decide) (by rw [t18_1]; decide) (by decide) ?_
    refine lv_iconst (v := 1) hx hb dX7_bends_52 (by decide) ?_
    exact s_iret cf hr hlk () hw (by unfold bendsF; rw [if_pos t18_1]) (Nat.le_of_ble_eq_true rfl) (Nat.le_of_ble_eq_true rfl) dX7_bends_53 hQ
  by_cases t18_2 : d (10 + 5 * h + 0) = 2
  · refine lv_tableIn (tgt := 56) (off := 38) hx hb dX7_bends_18 (by rw [t18_2]; decide) (by rw [t18_2]; decide) (by rw [t18_2]; decide) (by decide) ?_
    refine lv_iload_n hx hb dX7_bends_56 rfl (lv_at hl 0 rfl) ?_
    exact s_iret cf hr hlk () hw (by unfold bendsF; rw [if_neg t18_1, if_pos t18_2]) (Nat.le_of_ble_eq_true rfl) (Nat.le_of_ble_eq_true rfl) dX7_bends_57 hQ
  by_cases t18_3 : d (10 + 5 * h + 0) = 3
  · refine lv_tableIn (tgt := 54) (off := 36) hx hb dX7_bends_18 (by rw [t18_3]; decide) (by rw [t18_3]; decide) (by rw [t18_3]; decide) (by decide) ?_
    refine lv_iconst (v := 2) hx hb dX7_bends_54 (by decide) ?_
    exact s_iret cf hr hlk () hw (by unfold bendsF; rw [if_neg t18_1, if_neg t18_2, if_pos t18_3]) (Nat.le_of_ble_eq_true rfl) (Nat.le_of_ble_eq_true rfl) dX7_bends_55 hQ
  by_cases t18_4 : d (10 + 5 * h + 0) = 4
  · refine lv_tableIn (tgt := 58) (off := 40) hx hb dX7_bends_18 (by rw [t18_4]; decide) (by rw [t18_4]; decide) (by rw [t18_4]; decide) (by decide) ?_
    refine lv_iload_n hx hb dX7_bends_58 rfl (lv_at hl 0 rfl) ?_
    refine lv_iconst (v := 3) hx hb dX7_bends_59 (by decide) ?_
    refine lv_iadd hx hb dX7_bends_60 ?_
    exact s_iret cf hr hlk () hw (by unfold bendsF; rw [if_neg t18_1, if_neg t18_2, if_neg t18_3, if_pos t18_4]) (Nat.le_of_ble_eq_true rfl) (Nat.le_of_ble_eq_true rfl) dX7_bends_61 hQ
  by_cases t18_5 : d (10 + 5 * h + 0) = 5
  · refine lv_tableIn (tgt := 62) (off := 44) hx hb dX7_bends_18 (by rw [t18_5]; decide) (by rw [t18_5]; decide) (by rw [t18_5]; decide) (by decide) ?_
    refine lv_iconst (v := 0) hx hb dX7_bends_62 (by decide) ?_
    exact s_iret cf hr hlk () hw (by unfold bendsF; rw [if_neg t18_1, if_neg t18_2, if_neg t18_3, if_neg t18_4, if_pos t18_5]) (Nat.le_of_ble_eq_true rfl) (Nat.le_of_ble_eq_true rfl) dX7_bends_63 hQ
  refine lv_tableOut (tgt := 64) hx hb dX7_bends_18 (by have e0 := lv_neT t18_1 (show (1 : Int32).toInt = 1 from rfl); have e1 := lv_neT t18_2 (show (2 : Int32).toInt = 2 from rfl); have e2 := lv_neT t18_3 (show (3 : Int32).toInt = 3 from rfl); have e3 := lv_neT t18_4 (show (4 : Int32).toInt = 4 from rfl); have e4 := lv_neT t18_5 (show (5 : Int32).toInt = 5 from rfl); omega) (by decide) ?_
  refine lv_iconst (v := (-1)) hx hb dX7_bends_64 (by decide) ?_
  exact s_iret cf hr hlk () hw (by unfold bendsF; rw [if_neg t18_1, if_neg t18_2, if_neg t18_3, if_neg t18_4, if_neg t18_5]) (Nat.le_of_ble_eq_true rfl) (Nat.le_of_ble_eq_true rfl) dX7_bends_65 hQ
set_option maxRecDepth 100000 in
set_option maxHeartbeats 4000000 in
theorem m_burns {l : Launch} {g : GG} {a : Nat} {ad : Nat → Nat} {fs : List Value} (hf : MF ad fs) {d : DD} (h : Nat) (hh : h < 10) : Ct l g yX7_burns cX7_burns 2 (Option.some Jvm.ClassFile.FieldType.int) 1 0 0 [.ref a, .int (nI h)] [bO a 7 fs, bI g (ad 0) 60 d] (QI g (fun r (_ : Unit) => r = burnsF d h) (fun _ => [bO a 7 fs, bI g (ad 0) 60 d])) := by
  refine Ct.of (by decide) rfl ?_
  intro p e s m args below meth c A H locs ls Qf cf hr hlk hnm hQ hw hl
  have hx := cf.1
  have hb := cf.2.1
  have hml := cf.2.2.1
  have hown := cf.2.2.2.1
  have hts := cf.2.2.2.2
  have hw : WD g A s H locs [bO a 7 fs, bI g (ad 0) 60 d] := hw
  have hl : lv_has ls 2 [(0, .ref a), (1, .int (nI h))] := hl
  refine lv_aload_n hx hb dX7_burns_0 rfl (lv_at hl 0 rfl) ?_
  refine lv_iload_n hx hb dX7_burns_1 rfl (lv_at hl 1 rfl) ?_
  refine lv_iconst (v := 0) hx hb dX7_burns_2 (by decide) ?_
  refine s_calli (runV cf (m_of (d := d) hf h 0 (by omega)) hw [0, 1] (by decide) rfl km_X7_of ki_X7_of q1076 (run_recv (ci := 7) (T := TX7) (N := 39) hw 0 rfl rfl) rfl rfl hl.1 rfl dX7_burns_3) hw [0, 1] (by decide) rfl (fun _ => rfl) (fun r_3 u_1 H locs hp_2 hw => ?_)
  have hw : WD g A s H locs [bO a 7 fs, bI g (ad 0) 60 d] := hw
  subst hp_2
  by_cases t6_1 : d (10 + 5 * h + 0) = 1
  · refine lv_tableIn (tgt := 40) (off := 34) hx hb dX7_burns_6 (by rw [t6_1]; decide) (by rw [t6_1]; decide) (by rw [t6_1]; decide) (by decide) ?_
    refine lv_iconst (v := 3) hx hb dX7_burns_40 (by decide) ?_
    exact s_iret cf hr hlk () hw (by unfold burnsF; rw [if_pos t6_1]) (Nat.le_of_ble_eq_true rfl) (Nat.le_of_ble_eq_true rfl) dX7_burns_41 hQ
  by_cases t6_2 : d (10 + 5 * h + 0) = 2
  · refine lv_tableIn (tgt := 44) (off := 38) hx hb dX7_burns_6 (by rw [t6_2]; decide) (by rw [t6_2]; decide) (by rw [t6_2]; decide) (by decide) ?_
    refine lv_bipush (v := 10) hx hb dX7_burns_44 (by decide) ?_
    exact s_iret cf hr hlk () hw (by unfold burnsF; rw [if_neg t6_1, if_pos t6_2]) (Nat.le_of_ble_eq_true rfl) (Nat.le_of_ble_eq_true rfl) dX7_burns_46 hQ
  by_cases t6_3 : d (10 + 5 * h + 0) = 3
  · refine lv_tableIn (tgt := 42) (off := 36) hx hb dX7_burns_6 (by rw [t6_3]; decide) (by rw [t6_3]; decide) (by rw [t6_3]; decide) (by decide) ?_
    refine lv_iconst (v := 4) hx hb dX7_burns_42 (by decide) ?_
    exact s_iret cf hr hlk () hw (by unfold burnsF; rw [if_neg t6_1, if_neg t6_2, if_pos t6_3]) (Nat.le_of_ble_eq_true rfl) (Nat.le_of_ble_eq_true rfl) dX7_burns_43 hQ
  by_cases t6_4 : d (10 + 5 * h + 0) = 4
  · refine lv_tableIn (tgt := 47) (off := 41) hx hb dX7_burns_6 (by rw [t6_4]; decide) (by rw [t6_4]; decide) (by rw [t6_4]; decide) (by decide) ?_
    refine lv_bipush (v := 6) hx hb dX7_burns_47 (by decide) ?_
    exact s_iret cf hr hlk () hw (by unfold burnsF; rw [if_neg t6_1, if_neg t6_2, if_neg t6_3, if_pos t6_4]) (Nat.le_of_ble_eq_true rfl) (Nat.le_of_ble_eq_true rfl) dX7_burns_49 hQ
  by_cases t6_5 : d (10 + 5 * h + 0) = 5
  · refine lv_tableIn (tgt := 50) (off := 44) hx hb dX7_burns_6 (by rw [t6_5]; decide) (by rw [t6_5]; decide) (by rw [t6_5]; decide) (by decide) ?_
    refine lv_iconst (v := 0) hx hb dX7_burns_50 (by decide) ?_
    exact s_iret cf hr hlk () hw (by unfold burnsF; rw [if_neg t6_1, if_neg t6_2, if_neg t6_3, if_neg t6_4, if_pos t6_5]) (Nat.le_of_ble_eq_true rfl) (Nat.le_of_ble_eq_true rfl) dX7_burns_51 hQ
  refine lv_tableOut (tgt := 52) hx hb dX7_burns_6 (by have e0 := lv_neT t6_1 (show (1 : Int32).toInt = 1 from rfl); have e1 := lv_neT t6_2 (show (2 : Int32).toInt = 2 from rfl); have e2 := lv_neT t6_3 (show (3 : Int32).toInt = 3 from rfl); have e3 := lv_neT t6_4 (show (4 : Int32).toInt = 4 from rfl); have e4 := lv_neT t6_5 (show (5 : Int32).toInt = 5 from rfl); omega) (by decide) ?_
  refine lv_iconst (v := 5) hx hb dX7_burns_52 (by decide) ?_
  exact s_iret cf hr hlk () hw (by unfold burnsF; rw [if_neg t6_1, if_neg t6_2, if_neg t6_3, if_neg t6_4, if_neg t6_5]) (Nat.le_of_ble_eq_true rfl) (Nat.le_of_ble_eq_true rfl) dX7_burns_53 hQ
set_option maxRecDepth 100000 in
set_option maxHeartbeats 4000000 in
theorem m_worthOf {l : Launch} {g : GG} (k st co he : Int32) : Ct l g yX7_worthOf cX7_worthOf 4 (Option.some Jvm.ClassFile.FieldType.int) 0 0 0 [.int k, .int st, .int co, .int he] [] (QI g (fun r (_ : Unit) => r = worthF k st co he) (fun _ => [])) := by
  refine Ct.of (by decide) rfl ?_
  intro p e s m args below meth c A H locs ls Qf cf hr hlk hnm hQ hw hl
  have hx := cf.1
  have hb := cf.2.1
  have hml := cf.2.2.1
  have hown := cf.2.2.2.1
  have hts := cf.2.2.2.2
  have hw : WD g A s H locs [] := hw
  have hl : lv_has ls 4 [(0, .int k), (1, .int st), (2, .int co), (3, .int he)] := hl
  refine lv_iload_n hx hb dX7_worthOf_0 rfl (lv_at hl 0 rfl) ?_
  by_cases t1_1 : k = 1
  · refine lv_tableIn (tgt := 36) (off := 35) hx hb dX7_worthOf_1 (by rw [t1_1]; decide) (by rw [t1_1]; decide) (by rw [t1_1]; decide) (by decide) ?_
    refine lv_iload_n hx hb dX7_worthOf_36 rfl (lv_at hl 2 rfl) ?_
    refine lv_iload_n hx hb dX7_worthOf_37 rfl (lv_at hl 1 rfl) ?_
    refine lv_iadd hx hb dX7_worthOf_38 ?_
    exact s_iret cf hr hlk () hw (by unfold worthF; rw [if_pos t1_1]) (Nat.le_of_ble_eq_true rfl) (Nat.le_of_ble_eq_true rfl) dX7_worthOf_39 hQ
  by_cases t1_2 : k = 2
  · refine lv_tableIn (tgt := 46) (off := 45) hx hb dX7_worthOf_1 (by rw [t1_2]; decide) (by rw [t1_2]; decide) (by rw [t1_2]; decide) (by decide) ?_
    refine lv_bipush (v := 99) hx hb dX7_worthOf_46 (by decide) ?_
    refine lv_iload_n hx hb dX7_worthOf_48 rfl (lv_at hl 1 rfl) ?_
    refine lv_isub hx hb dX7_worthOf_49 ?_
    exact s_iret cf hr hlk () hw (by unfold worthF; rw [if_neg t1_1, if_pos t1_2]) (Nat.le_of_ble_eq_true rfl) (Nat.le_of_ble_eq_true rfl) dX7_worthOf_50 hQ
  by_cases t1_3 : k = 3
  · refine lv_tableIn (tgt := 40) (off := 39) hx hb dX7_worthOf_1 (by rw [t1_3]; decide) (by rw [t1_3]; decide) (by rw [t1_3]; decide) (by decide) ?_
    refine lv_iload_n hx hb dX7_worthOf_40 rfl (lv_at hl 2 rfl) ?_
    refine lv_iload_n hx hb dX7_worthOf_41 rfl (lv_at hl 1 rfl) ?_
    refine lv_iadd hx hb dX7_worthOf_42 ?_
    refine lv_iconst (v := 2) hx hb dX7_worthOf_43 (by decide) ?_
    refine lv_idiv hx hb dX7_worthOf_44 (by decide) ?_
    exact s_iret cf hr hlk () hw (by unfold worthF; rw [if_neg t1_1, if_neg t1_2, if_pos t1_3]) (Nat.le_of_ble_eq_true rfl) (Nat.le_of_ble_eq_true rfl) dX7_worthOf_45 hQ
  by_cases t1_4 : k = 4
  · refine lv_tableIn (tgt := 51) (off := 50) hx hb dX7_worthOf_1 (by rw [t1_4]; decide) (by rw [t1_4]; decide) (by rw [t1_4]; decide) (by decide) ?_
    refine lv_bipush (v := 99) hx hb dX7_worthOf_51 (by decide) ?_
    refine lv_iload_n hx hb dX7_worthOf_53 rfl (lv_at hl 1 rfl) ?_
    refine lv_isub hx hb dX7_worthOf_54 ?_
    refine lv_bipush (v := 7) hx hb dX7_worthOf_55 (by decide) ?_
    refine lv_iadd hx hb dX7_worthOf_57 ?_
    exact s_iret cf hr hlk () hw (by unfold worthF; rw [if_neg t1_1, if_neg t1_2, if_neg t1_3, if_pos t1_4]) (Nat.le_of_ble_eq_true rfl) (Nat.le_of_ble_eq_true rfl) dX7_worthOf_58 hQ
  by_cases t1_5 : k = 5
  · refine lv_tableIn (tgt := 59) (off := 58) hx hb dX7_worthOf_1 (by rw [t1_5]; decide) (by rw [t1_5]; decide) (by rw [t1_5]; decide) (by decide) ?_
    refine lv_iload_n hx hb dX7_worthOf_59 rfl (lv_at hl 3 rfl) ?_
    exact s_iret cf hr hlk () hw (by unfold worthF; rw [if_neg t1_1, if_neg t1_2, if_neg t1_3, if_neg t1_4, if_pos t1_5]) (Nat.le_of_ble_eq_true rfl) (Nat.le_of_ble_eq_true rfl) dX7_worthOf_60 hQ
  refine lv_tableOut (tgt := 61) hx hb dX7_worthOf_1 (by have e0 := lv_neT t1_1 (show (1 : Int32).toInt = 1 from rfl); have e1 := lv_neT t1_2 (show (2 : Int32).toInt = 2 from rfl); have e2 := lv_neT t1_3 (show (3 : Int32).toInt = 3 from rfl); have e3 := lv_neT t1_4 (show (4 : Int32).toInt = 4 from rfl); have e4 := lv_neT t1_5 (show (5 : Int32).toInt = 5 from rfl); omega) (by decide) ?_
  refine lv_iload_n hx hb dX7_worthOf_61 rfl (lv_at hl 2 rfl) ?_
  exact s_iret cf hr hlk () hw (by unfold worthF; rw [if_neg t1_1, if_neg t1_2, if_neg t1_3, if_neg t1_4, if_neg t1_5]) (Nat.le_of_ble_eq_true rfl) (Nat.le_of_ble_eq_true rfl) dX7_worthOf_62 hQ
set_option maxRecDepth 100000 in
set_option maxHeartbeats 4000000 in
theorem m_draw {l : Launch} {g : GG} {a : Nat} {ad : Nat → Nat} {fs : List Value} (hf : MF ad fs) {d : DD} : Ct l g yX7_draw cX7_draw 1 (Option.some Jvm.ClassFile.FieldType.int) 0 0 0 [.ref a] [bO a 7 fs, bI g (ad 0) 60 d] (QI g (fun r (_ : Unit) => r = dwF (drawF d 8)) (fun _ => [bO a 7 fs, bI g (ad 0) 60 (drawF d)])) := by
  refine Ct.of (by decide) rfl ?_
  intro p e s m args below meth c A H locs ls Qf cf hr hlk hnm hQ hw hl
  have hx := cf.1
  have hb := cf.2.1
  have hml := cf.2.2.1
  have hown := cf.2.2.2.1
  have hts := cf.2.2.2.2
  have hw : WD g A s H locs [bO a 7 fs, bI g (ad 0) 60 d] := hw
  have hl : lv_has ls 1 [(0, .ref a)] := hl
  refine lv_aload_n hx hb dX7_draw_0 rfl (lv_at hl 0 rfl) ?_
  refine s_get (v := .ref (ad 0)) fb7 cf hw 0 rfl 0 rfl q921 (hf.2 0 rfl) dX7_draw_1 ?_
  refine lv_bipush (v := 8) hx hb dX7_draw_4 (by decide) ?_
  refine lv_aload_n hx hb dX7_draw_6 rfl (lv_at hl 0 rfl) ?_
  refine s_get (v := .ref (ad 0)) fb7 cf hw 0 rfl 0 rfl q921 (hf.2 0 rfl) dX7_draw_7 ?_
  refine lv_bipush (v := 8) hx hb dX7_draw_10 (by decide) ?_
  refine s_iald (j := 8) cf hw 1 rfl (rfl) (by decide) rfl dX7_draw_12 ?_
  refine lv_ldc hx hb hown (hts _ q1147) dX7_draw_13 ?_
  refine lv_imul hx hb dX7_draw_15 ?_
  refine lv_sipush (v := 12345) hx hb dX7_draw_16 (by decide) ?_
  refine lv_iadd hx hb dX7_draw_19 ?_
  refine s_iast (j := 8) cf hw 1 rfl (rfl) (by decide) rfl dX7_draw_20 (fun H locs hw => ?_)
  have hw : WD g A s H locs [bO a 7 fs, bI g (ad 0) 60 (upd d 8 (((d 8) * 1103515245) + 12345))] := hw
  refine lv_aload_n hx hb dX7_draw_21 rfl (lv_at hl 0 rfl) ?_
  refine s_get (v := .ref (ad 0)) fb7 cf hw 0 rfl 0 rfl q921 (hf.2 0 rfl) dX7_draw_22 ?_
  refine lv_bipush (v := 8) hx hb dX7_draw_25 (by decide) ?_
  refine s_iald (j := 8) cf hw 1 rfl (rfl) (by decide) rfl dX7_draw_27 ?_
  refine lv_bipush (v := 8) hx hb dX7_draw_28 (by decide) ?_
  refine lv_iushr (v := (((upd d 8 (((d 8) * 1103515245) + 12345)) 8).toUInt32 >>> ((8 : Int32).toUInt32 &&& Int32.toUInt32 31)).toInt32) hx hb dX7_draw_30 rfl ?_
  exact s_iret cf hr hlk () hw rfl (Nat.le_of_ble_eq_true rfl) (Nat.le_of_ble_eq_true rfl) dX7_draw_31 hQ
