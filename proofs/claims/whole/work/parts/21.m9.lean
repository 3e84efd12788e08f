set_option maxRecDepth 100000 in
set_option maxHeartbeats 4000000 in
theorem m_fee {l : Launch} {g : GG} {a : Nat} {ad : Nat → Nat} {fs : List Value} (hf : MF ad fs) {d cdf kf sf pl : DD} {fe : TXC} (hT : TxOK d kf sf cdf 1 fe) : Ct l g yX7_fee cX7_fee 2 (Option.some Jvm.ClassFile.FieldType.int) 2 0 0 [.ref a] [bO a 7 fs, bI g (ad 0) 60 d, bI g (ad 5) 1344 cdf, bI g (ad 6) 14 kf, bI g (ad 7) 14 sf, bI g (ad 9) 96 pl] (QI g (fun r (_ : DD) => r = feeF fe d) (fun u => [bO a 7 fs, bI g (ad 0) 60 d, bI g (ad 5) 1344 cdf, bI g (ad 6) 14 kf, bI g (ad 7) 14 sf, bI g (ad 9) 96 u])) := by
  refine Ct.of (by decide) rfl ?_
  intro p e s m args below meth c A H locs ls Qf cf hr hlk hnm hQ hw hl
  have hx := cf.1
  have hb := cf.2.1
  have hml := cf.2.2.1
  have hown := cf.2.2.2.1
  have hts := cf.2.2.2.2
  have hw : WD g A s H locs [bO a 7 fs, bI g (ad 0) 60 d, bI g (ad 5) 1344 cdf, bI g (ad 6) 14 kf, bI g (ad 7) 14 sf, bI g (ad 9) 96 pl] := hw
  have hl : lv_has ls 2 [(0, .ref a)] := hl
  obtain ⟨nt, hnt, hnt14, hcase⟩ := hT
  refine lv_aload_n hx hb dX7_fee_0 rfl (lv_at hl 0 rfl) ?_
  refine lv_iconst (v := 1) hx hb dX7_fee_1 (by decide) ?_
  refine s_calli (runV cf (m_counts (d := d) (kf := kf) hf 1 nt hnt hnt14) hw [0, 1, 3] (by decide) rfl km_X7_counts ki_X7_counts q1072 (run_recv (ci := 7) (T := TX7) (N := 39) hw 0 rfl rfl) rfl rfl hl.1 rfl dX7_fee_2) hw [0, 1, 3] (by decide) rfl (fun _ => rfl) (fun r_3 u_1 H locs hp_2 hw => ?_)
  have hw : WD g A s H locs [bO a 7 fs, bI g (ad 0) 60 d, bI g (ad 5) 1344 cdf, bI g (ad 6) 14 kf, bI g (ad 7) 14 sf, bI g (ad 9) 96 pl] := hw
  subst hp_2
  rcases hq : cntF kf 1 nt with _ | t
  · rw [hq] at hcase
    simp only at hcase
    subst hcase
    refine lv_topr (y := -1) (by rfl) ?_
    refine lv_istore_n (lv' := [(1, .int (-1)), (0, .ref a)]) hx hb dX7_fee_5 rfl hl (by decide) rfl (fun ls hl => ?_)
    refine lv_iload_n hx hb dX7_fee_6 rfl (lv_at hl 0 rfl) ?_
    refine lv_if_ge (tgt := 20) hx hb dX7_fee_7 (by decide) (fun c7 => ?_) (fun c7 => ?_)
    · exact absurd c7 (by decide)
    · refine lv_aload_n hx hb dX7_fee_10 rfl (lv_at hl 1 rfl) ?_
      refine s_get (v := .ref (ad 0)) fb7 cf hw 0 rfl 0 rfl q921 (hf.2 0 rfl) dX7_fee_11 ?_
      refine lv_bipush (v := 6) hx hb dX7_fee_14 (by decide) ?_
      refine s_iald (j := 6) cf hw 1 rfl (rfl) (by decide) rfl dX7_fee_16 ?_
      refine lv_goto (tgt := 41) hx hb dX7_fee_17 (by decide) ?_
      exact s_iret cf hr hlk pl hw (by rfl) (Nat.le_of_ble_eq_true rfl) (Nat.le_of_ble_eq_true rfl) dX7_fee_41 hQ
  · rw [hq] at hcase
    obtain ⟨len, tc, hft, hsf, hcf, hok⟩ := hcase
    subst hft
    have ht : t < 14 := by have := (cntF_lt hq).1; omega
    refine lv_topr (y := nI t) (by rfl) ?_
    refine lv_istore_n (lv' := [(1, .int (nI t)), (0, .ref a)]) hx hb dX7_fee_5 rfl hl (by decide) rfl (fun ls hl => ?_)
    refine lv_iload_n hx hb dX7_fee_6 rfl (lv_at hl 0 rfl) ?_
    refine lv_if_ge (tgt := 20) hx hb dX7_fee_7 (by decide) (fun c7 => ?_) (fun c7 => ?_)
    · refine lv_aload_n hx hb dX7_fee_20 rfl (lv_at hl 1 rfl) ?_
      refine lv_iload_n hx hb dX7_fee_21 rfl (lv_at hl 0 rfl) ?_
      refine lv_aload_n hx hb dX7_fee_22 rfl (lv_at hl 1 rfl) ?_
      refine s_get (v := .ref (ad 0)) fb7 cf hw 0 rfl 0 rfl q921 (hf.2 0 rfl) dX7_fee_23 ?_
      refine lv_bipush (v := 6) hx hb dX7_fee_26 (by decide) ?_
      refine s_iald (j := 6) cf hw 1 rfl (rfl) (by decide) rfl dX7_fee_28 ?_
      refine lv_aload_n hx hb dX7_fee_29 rfl (lv_at hl 1 rfl) ?_
      refine s_get (v := .ref (ad 0)) fb7 cf hw 0 rfl 0 rfl q921 (hf.2 0 rfl) dX7_fee_30 ?_
      refine lv_bipush (v := 7) hx hb dX7_fee_33 (by decide) ?_
      refine s_iald (j := 7) cf hw 1 rfl (rfl) (by decide) rfl dX7_fee_35 ?_
      refine lv_iconst (v := 0) hx hb dX7_fee_36 (by decide) ?_
      refine lv_iconst (v := 0) hx hb dX7_fee_37 (by decide) ?_
      refine s_calli (runV cf (m_gives (cdf := cdf) (sf := sf) (pl := pl) hf t (d 6) (d 7) 0 0 ht hsf hcf hok) hw [0, 2, 4, 5] (by decide) rfl km_X7_gives ki_X7_gives q1083 (run_recv (ci := 7) (T := TX7) (N := 39) hw 0 rfl rfl) rfl rfl hl.1 rfl dX7_fee_38) hw [0, 2, 4, 5] (by decide) rfl (fun _ => rfl) (fun r_6 u_4 H locs hp_5 hw => ?_)
      have hw : WD g A s H locs [bO a 7 fs, bI g (ad 0) 60 d, bI g (ad 5) 1344 cdf, bI g (ad 6) 14 kf, bI g (ad 7) 14 sf, bI g (ad 9) 96 u_4] := hw
      subst hp_5
      exact s_iret cf hr hlk u_4 hw (by rfl) (Nat.le_of_ble_eq_true rfl) (Nat.le_of_ble_eq_true rfl) dX7_fee_41 hQ
    · exact absurd (nI_pos' (by omega)) c7
set_option maxRecDepth 100000 in
set_option maxHeartbeats 4000000 in
theorem m_fine {l : Launch} {g : GG} {a : Nat} {ad : Nat → Nat} {fs : List Value} (hf : MF ad fs) {d cdf kf sf pl : DD} {fe : TXC} (hT : TxOK d kf sf cdf 2 fe) {n : Nat} (hn : d 0 = nI n) (hn10 : n ≤ 10) (x : Int32) : Ct l g yX7_fine cX7_fine 3 (Option.some Jvm.ClassFile.FieldType.int) 2 0 0 [.ref a, .int x] [bO a 7 fs, bI g (ad 0) 60 d, bI g (ad 5) 1344 cdf, bI g (ad 6) 14 kf, bI g (ad 7) 14 sf, bI g (ad 9) 96 pl] (QI g (fun r (_ : DD) => r = R_fine fe d x) (fun u => [bO a 7 fs, bI g (ad 0) 60 d, bI g (ad 5) 1344 cdf, bI g (ad 6) 14 kf, bI g (ad 7) 14 sf, bI g (ad 9) 96 u])) := by
  refine Ct.of (by decide) rfl ?_
  intro p e s m args below meth c A H locs ls Qf cf hr hlk hnm hQ hw hl
  have hx := cf.1
  have hb := cf.2.1
  have hml := cf.2.2.1
  have hown := cf.2.2.2.1
  have hts := cf.2.2.2.2
  have hw : WD g A s H locs [bO a 7 fs, bI g (ad 0) 60 d, bI g (ad 5) 1344 cdf, bI g (ad 6) 14 kf, bI g (ad 7) 14 sf, bI g (ad 9) 96 pl] := hw
  have hl : lv_has ls 3 [(0, .ref a), (1, .int x)] := hl
  obtain ⟨nt, hnt, hnt14, hcase⟩ := hT
  refine lv_aload_n hx hb dX7_fine_0 rfl (lv_at hl 0 rfl) ?_
  refine lv_iload_n hx hb dX7_fine_1 rfl (lv_at hl 1 rfl) ?_
  refine s_calli (runV cf (m_isHouse (d := d) hf x) hw [0, 1] (by decide) rfl km_X7_isHouse ki_X7_isHouse q1059 (run_recv (ci := 7) (T := TX7) (N := 39) hw 0 rfl rfl) rfl rfl hl.1 rfl dX7_fine_2) hw [0, 1] (by decide) rfl (fun _ => rfl) (fun r_3 u_1 H locs hp_2 hw => ?_)
  have hw : WD g A s H locs [bO a 7 fs, bI g (ad 0) 60 d, bI g (ad 5) 1344 cdf, bI g (ad 6) 14 kf, bI g (ad 7) 14 sf, bI g (ad 9) 96 pl] := hw
  subst hp_2
  refine lv_if_ne (tgt := 11) hx hb dX7_fine_5 (by decide) (fun c5 => ?_) (fun c5 => ?_)
  · have c5 := b01_n c5
    obtain ⟨j, hjn, hxj, hcl⟩ := isH_nat hn hn10 c5
    subst hxj
    refine lv_aload_n hx hb dX7_fine_11 rfl (lv_at hl 0 rfl) ?_
    refine lv_iconst (v := 2) hx hb dX7_fine_12 (by decide) ?_
    refine s_calli (runV cf (m_counts (d := d) (kf := kf) hf 2 nt hnt hnt14) hw [0, 1, 3] (by decide) rfl km_X7_counts ki_X7_counts q1072 (run_recv (ci := 7) (T := TX7) (N := 39) hw 0 rfl rfl) rfl rfl hl.1 rfl dX7_fine_13) hw [0, 1, 3] (by decide) rfl (fun _ => rfl) (fun r_6 u_4 H locs hp_5 hw => ?_)
    have hw : WD g A s H locs [bO a 7 fs, bI g (ad 0) 60 d, bI g (ad 5) 1344 cdf, bI g (ad 6) 14 kf, bI g (ad 7) 14 sf, bI g (ad 9) 96 pl] := hw
    subst hp_5
    rcases hq : cntF kf 2 nt with _ | t
    · rw [hq] at hcase
      simp only at hcase
      subst hcase
      refine lv_topr (y := -1) (by rfl) ?_
      refine lv_istore_n (lv' := [(2, .int (-1)), (0, .ref a), (1, .int (nI j))]) hx hb dX7_fine_16 rfl hl (by decide) rfl (fun ls hl => ?_)
      refine lv_iload_n hx hb dX7_fine_17 rfl (lv_at hl 0 rfl) ?_
      refine lv_if_ge (tgt := 30) hx hb dX7_fine_18 (by decide) (fun c18 => ?_) (fun c18 => ?_)
      · exact absurd c18 (by decide)
      · refine lv_aload_n hx hb dX7_fine_21 rfl (lv_at hl 1 rfl) ?_
        refine lv_iload_n hx hb dX7_fine_22 rfl (lv_at hl 2 rfl) ?_
        refine lv_iconst (v := 3) hx hb dX7_fine_23 (by decide) ?_
        refine s_calli (runV cf (m_of (d := d) hf j 3 (by omega)) hw [0, 1] (by decide) rfl km_X7_of ki_X7_of q1076 (run_recv (ci := 7) (T := TX7) (N := 39) hw 0 rfl rfl) rfl rfl hl.1 rfl dX7_fine_24) hw [0, 1] (by decide) rfl (fun _ => rfl) (fun r_9 u_7 H locs hp_8 hw => ?_)
        have hw : WD g A s H locs [bO a 7 fs, bI g (ad 0) 60 d, bI g (ad 5) 1344 cdf, bI g (ad 6) 14 kf, bI g (ad 7) 14 sf, bI g (ad 9) 96 pl] := hw
        subst hp_8
        refine lv_goto (tgt := 49) hx hb dX7_fine_27 (by decide) ?_
        exact s_iret cf hr hlk pl hw (by unfold R_fine; rw [if_pos c5, hcl]; rfl) (Nat.le_of_ble_eq_true rfl) (Nat.le_of_ble_eq_true rfl) dX7_fine_49 hQ
    · rw [hq] at hcase
      obtain ⟨len, tc, hft, hsf, hcf, hok⟩ := hcase
      subst hft
      have ht : t < 14 := by have := (cntF_lt hq).1; omega
      refine lv_topr (y := nI t) (by rfl) ?_
      refine lv_istore_n (lv' := [(2, .int (nI t)), (0, .ref a), (1, .int (nI j))]) hx hb dX7_fine_16 rfl hl (by decide) rfl (fun ls hl => ?_)
      refine lv_iload_n hx hb dX7_fine_17 rfl (lv_at hl 0 rfl) ?_
      refine lv_if_ge (tgt := 30) hx hb dX7_fine_18 (by decide) (fun c18 => ?_) (fun c18 => ?_)
      · refine lv_aload_n hx hb dX7_fine_30 rfl (lv_at hl 1 rfl) ?_
        refine lv_iload_n hx hb dX7_fine_31 rfl (lv_at hl 0 rfl) ?_
        refine lv_aload_n hx hb dX7_fine_32 rfl (lv_at hl 1 rfl) ?_
        refine lv_iload_n hx hb dX7_fine_33 rfl (lv_at hl 2 rfl) ?_
        refine lv_iconst (v := 1) hx hb dX7_fine_34 (by decide) ?_
        refine s_calli (runV cf (m_of (d := d) hf j 1 (by omega)) hw [0, 1] (by decide) rfl km_X7_of ki_X7_of q1076 (run_recv (ci := 7) (T := TX7) (N := 39) hw 0 rfl rfl) rfl rfl hl.1 rfl dX7_fine_35) hw [0, 1] (by decide) rfl (fun _ => rfl) (fun r_12 u_10 H locs hp_11 hw => ?_)
        have hw : WD g A s H locs [bO a 7 fs, bI g (ad 0) 60 d, bI g (ad 5) 1344 cdf, bI g (ad 6) 14 kf, bI g (ad 7) 14 sf, bI g (ad 9) 96 pl] := hw
        subst hp_11
        refine lv_aload_n hx hb dX7_fine_38 rfl (lv_at hl 1 rfl) ?_
        refine lv_iload_n hx hb dX7_fine_39 rfl (lv_at hl 2 rfl) ?_
        refine lv_iconst (v := 3) hx hb dX7_fine_40 (by decide) ?_
        refine s_calli (runV cf (m_of (d := d) hf j 3 (by omega)) hw [0, 1] (by decide) rfl km_X7_of ki_X7_of q1076 (run_recv (ci := 7) (T := TX7) (N := 39) hw 0 rfl rfl) rfl rfl hl.1 rfl dX7_fine_41) hw [0, 1] (by decide) rfl (fun _ => rfl) (fun r_15 u_13 H locs hp_14 hw => ?_)
        have hw : WD g A s H locs [bO a 7 fs, bI g (ad 0) 60 d, bI g (ad 5) 1344 cdf, bI g (ad 6) 14 kf, bI g (ad 7) 14 sf, bI g (ad 9) 96 pl] := hw
        subst hp_14
        refine lv_iconst (v := 0) hx hb dX7_fine_44 (by decide) ?_
        refine lv_iconst (v := 0) hx hb dX7_fine_45 (by decide) ?_
        refine s_calli (runV cf (m_gives (cdf := cdf) (sf := sf) (pl := pl) hf t (d (10 + 5 * j + 1)) (d (10 + 5 * j + 3)) 0 0 ht hsf hcf hok) hw [0, 2, 4, 5] (by decide) rfl km_X7_gives ki_X7_gives q1083 (run_recv (ci := 7) (T := TX7) (N := 39) hw 0 rfl rfl) rfl rfl hl.1 rfl dX7_fine_46) hw [0, 2, 4, 5] (by decide) rfl (fun _ => rfl) (fun r_18 u_16 H locs hp_17 hw => ?_)
        have hw : WD g A s H locs [bO a 7 fs, bI g (ad 0) 60 d, bI g (ad 5) 1344 cdf, bI g (ad 6) 14 kf, bI g (ad 7) 14 sf, bI g (ad 9) 96 u_16] := hw
        subst hp_17
        exact s_iret cf hr hlk u_16 hw (by unfold R_fine; rw [if_pos c5, hcl]; rfl) (Nat.le_of_ble_eq_true rfl) (Nat.le_of_ble_eq_true rfl) dX7_fine_49 hQ
      · exact absurd (nI_pos' (by omega)) c18
  · have c5 := b01_z c5
    refine lv_ldc hx hb hown (hts _ q1049) dX7_fine_8 ?_
    exact s_iret cf hr hlk pl hw (by unfold R_fine; rw [if_neg c5]) (Nat.le_of_ble_eq_true rfl) (Nat.le_of_ble_eq_true rfl) dX7_fine_10 hQ
set_option maxRecDepth 100000 in
set_option maxHeartbeats 4000000 in
theorem m_keep {l : Launch} {g : GG} {a : Nat} {ad : Nat → Nat} {fs : List Value} (hf : MF ad fs) {d kd : DD} : Ct l g yX7_keep cX7_keep 1 (Option.some Jvm.ClassFile.FieldType.int) 1 0 0 [.ref a] [bO a 7 fs, bI g (ad 0) 60 d, bI g (ad 1) 60 kd] (QI g (fun r (_ : Unit) => r = d 0) (fun _ => [bO a 7 (fs.set 4 (.int 1)), bI g (ad 0) 60 d, bI g (ad 1) 60 d])) := by
  refine Ct.of (by decide) rfl ?_
  intro p e s m args below meth c A H locs ls Qf cf hr hlk hnm hQ hw hl
  have hx := cf.1
  have hb := cf.2.1
  have hml := cf.2.2.1
  have hown := cf.2.2.2.1
  have hts := cf.2.2.2.2
  have hw : WD g A s H locs [bO a 7 fs, bI g (ad 0) 60 d, bI g (ad 1) 60 kd] := hw
  have hl : lv_has ls 1 [(0, .ref a)] := hl
  refine lv_aload_n hx hb dX7_keep_0 rfl (lv_at hl 0 rfl) ?_
  refine s_get (v := .ref (ad 0)) fb7 cf hw 0 rfl 0 rfl q921 (hf.2 0 rfl) dX7_keep_1 ?_
  refine lv_aload_n hx hb dX7_keep_4 rfl (lv_at hl 0 rfl) ?_
  refine s_get (v := .ref (ad 1)) fb7 cf hw 0 rfl 1 rfl q922 (hf.2 1 rfl) dX7_keep_5 ?_
  refine s_callv (runS cf (m_copies (x := ad 0) (y := ad 1) (f := d) (t := kd)) hw [1, 2] (by decide) rfl km_X7_copies ks_X7_copies q1203 rfl rfl hl.1 rfl dX7_keep_8) hw [1, 2] (by decide) rfl (fun _ => rfl) (fun u_1 H locs hp_2 hw => ?_)
  have hw : WD g A s H locs [bO a 7 fs, bI g (ad 0) 60 d, bI g (ad 1) 60 d] := hw
  refine lv_aload_n hx hb dX7_keep_11 rfl (lv_at hl 0 rfl) ?_
  refine lv_iconst (v := 1) hx hb dX7_keep_12 (by decide) ?_
  refine s_put (v := .int 1) fb7 cf hw 0 rfl 4 rfl q925 rfl rfl rfl (by first | exact hf.len 4 (by decide) | (simp only [List.length_set]; exact hf.len 4 (by decide))) dX7_keep_13 (fun H locs hw => ?_)
  have hw : WD g A s H locs [bO a 7 (fs.set 4 (.int 1)), bI g (ad 0) 60 d, bI g (ad 1) 60 d] := hw
  refine lv_aload_n hx hb dX7_keep_16 rfl (lv_at hl 0 rfl) ?_
  refine s_get (v := .ref (ad 0)) fb7 cf hw 0 rfl 0 rfl q921 (by rw [List.getElem?_set_ne (by decide)]; exact (hf.2 0 rfl)) dX7_keep_17 ?_
  refine lv_iconst (v := 0) hx hb dX7_keep_20 (by decide) ?_
  refine s_iald (j := 0) cf hw 1 rfl (rfl) (by decide) rfl dX7_keep_21 ?_
  exact s_iret cf hr hlk () hw rfl (Nat.le_of_ble_eq_true rfl) (Nat.le_of_ble_eq_true rfl) dX7_keep_22 hQ
set_option maxRecDepth 100000 in
set_option maxHeartbeats 4000000 in
theorem m_back {l : Launch} {g : GG} {a : Nat} {ad : Nat → Nat} {fs : List Value} (hf : MF ad fs) {d kd : DD} {ik : Int32} (hik : fs[4]? = some (.int ik)) : Ct l g yX7_back cX7_back 1 (Option.some Jvm.ClassFile.FieldType.int) 1 0 0 [.ref a] [bO a 7 fs, bI g (ad 0) 60 d, bI g (ad 1) 60 kd] (QI g (fun r (_ : Unit) => r = if ik = 0 then -1000000002 else kd 0) (fun _ => [bO a 7 fs, bI g (ad 0) 60 (if ik = 0 then d else kd), bI g (ad 1) 60 kd])) := by
  refine Ct.of (by decide) rfl ?_
  intro p e s m args below meth c A H locs ls Qf cf hr hlk hnm hQ hw hl
  have hx := cf.1
  have hb := cf.2.1
  have hml := cf.2.2.1
  have hown := cf.2.2.2.1
  have hts := cf.2.2.2.2
  have hw : WD g A s H locs [bO a 7 fs, bI g (ad 0) 60 d, bI g (ad 1) 60 kd] := hw
  have hl : lv_has ls 1 [(0, .ref a)] := hl
  refine lv_aload_n hx hb dX7_back_0 rfl (lv_at hl 0 rfl) ?_
  refine s_get (v := .int ik) fb7 cf hw 0 rfl 4 rfl q925 hik dX7_back_1 ?_
  refine lv_if_ne (tgt := 11) hx hb dX7_back_4 (by decide) (fun c4 => ?_) (fun c4 => ?_)
  · refine lv_aload_n hx hb dX7_back_11 rfl (lv_at hl 0 rfl) ?_
    refine s_get (v := .ref (ad 1)) fb7 cf hw 0 rfl 1 rfl q922 (hf.2 1 rfl) dX7_back_12 ?_
    refine lv_aload_n hx hb dX7_back_15 rfl (lv_at hl 0 rfl) ?_
    refine s_get (v := .ref (ad 0)) fb7 cf hw 0 rfl 0 rfl q921 (hf.2 0 rfl) dX7_back_16 ?_
    refine s_callv (runS cf (m_copies (x := ad 1) (y := ad 0) (f := kd) (t := d)) hw [2, 1] (by decide) rfl km_X7_copies ks_X7_copies q1203 rfl rfl hl.1 rfl dX7_back_19) hw [2, 1] (by decide) rfl (fun _ => rfl) (fun u_1 H locs hp_2 hw => ?_)
    have hw : WD g A s H locs [bO a 7 fs, bI g (ad 0) 60 kd, bI g (ad 1) 60 kd] := hw
    refine lv_aload_n hx hb dX7_back_22 rfl (lv_at hl 0 rfl) ?_
    refine s_get (v := .ref (ad 0)) fb7 cf hw 0 rfl 0 rfl q921 (hf.2 0 rfl) dX7_back_23 ?_
    refine lv_iconst (v := 0) hx hb dX7_back_26 (by decide) ?_
    refine s_iald (j := 0) cf hw 1 rfl (rfl) (by decide) rfl dX7_back_27 ?_
    exact s_iret cf hr hlk () (by rw [if_neg c4]; exact hw) (by rw [if_neg c4]) (Nat.le_of_ble_eq_true rfl) (Nat.le_of_ble_eq_true rfl) dX7_back_28 hQ
  · refine lv_ldcw hx hb hown (hts _ q1372) dX7_back_7 ?_
    exact s_iret cf hr hlk () (by rw [if_pos c4]; exact hw) (by rw [if_pos c4]) (Nat.le_of_ble_eq_true rfl) (Nat.le_of_ble_eq_true rfl) dX7_back_10 hQ
set_option maxRecDepth 100000 in
set_option maxHeartbeats 4000000 in
theorem m_count {l : Launch} {g : GG} {a : Nat} {ad : Nat → Nat} {fs : List Value} (hf : MF ad fs) {d : DD} {wt tp : Int32} (hwt : fs[38]? = some (.int wt)) (htp : fs[11]? = some (.int tp)) (w : Int32) : Ct l g yX7_count cX7_count 2 (Option.some Jvm.ClassFile.FieldType.int) 0 0 0 [.ref a, .int w] [bO a 7 fs, bI g (ad 0) 60 d] (QI g (fun r (_ : Unit) => r = R_count d wt tp w) (fun _ => [bO a 7 fs, bI g (ad 0) 60 d])) := by
  refine Ct.of (by decide) rfl ?_
  intro p e s m args below meth c A H locs ls Qf cf hr hlk hnm hQ hw hl
  have hx := cf.1
  have hb := cf.2.1
  have hml := cf.2.2.1
  have hown := cf.2.2.2.1
  have hts := cf.2.2.2.2
  have hw : WD g A s H locs [bO a 7 fs, bI g (ad 0) 60 d] := hw
  have hl : lv_has ls 2 [(0, .ref a), (1, .int w)] := hl
  refine lv_iload_n hx hb dX7_count_0 rfl (lv_at hl 1 rfl) ?_
  by_cases t1_0 : w = 0
  · refine lv_tableIn (tgt := 52) (off := 51) hx hb dX7_count_1 (by rw [t1_0]; decide) (by rw [t1_0]; decide) (by rw [t1_0]; decide) (by decide) ?_
    refine lv_aload_n hx hb dX7_count_52 rfl (lv_at hl 0 rfl) ?_
    refine s_get (v := .ref (ad 0)) fb7 cf hw 0 rfl 0 rfl q921 (hf.2 0 rfl) dX7_count_53 ?_
    refine lv_iconst (v := 0) hx hb dX7_count_56 (by decide) ?_
    refine s_iald (j := 0) cf hw 1 rfl (rfl) (by decide) rfl dX7_count_57 ?_
    exact s_iret cf hr hlk () hw (by unfold R_count; rw [if_pos t1_0]) (Nat.le_of_ble_eq_true rfl) (Nat.le_of_ble_eq_true rfl) dX7_count_58 hQ
  by_cases t1_1 : w = 1
  · refine lv_tableIn (tgt := 59) (off := 58) hx hb dX7_count_1 (by rw [t1_1]; decide) (by rw [t1_1]; decide) (by rw [t1_1]; decide) (by decide) ?_
    refine lv_aload_n hx hb dX7_count_59 rfl (lv_at hl 0 rfl) ?_
    refine s_get (v := .ref (ad 0)) fb7 cf hw 0 rfl 0 rfl q921 (hf.2 0 rfl) dX7_count_60 ?_
    refine lv_iconst (v := 1) hx hb dX7_count_63 (by decide) ?_
    refine s_iald (j := 1) cf hw 1 rfl (rfl) (by decide) rfl dX7_count_64 ?_
    exact s_iret cf hr hlk () hw (by unfold R_count; rw [if_neg t1_0, if_pos t1_1]) (Nat.le_of_ble_eq_true rfl) (Nat.le_of_ble_eq_true rfl) dX7_count_65 hQ
  by_cases t1_2 : w = 2
  · refine lv_tableIn (tgt := 66) (off := 65) hx hb dX7_count_1 (by rw [t1_2]; decide) (by rw [t1_2]; decide) (by rw [t1_2]; decide) (by decide) ?_
    subst t1_2
    refine lv_aload_n hx hb dX7_count_66 rfl (lv_at hl 0 rfl) ?_
    refine s_get (v := .ref (ad 0)) fb7 cf hw 0 rfl 0 rfl q921 (hf.2 0 rfl) dX7_count_67 ?_
    refine lv_iload_n hx hb dX7_count_70 rfl (lv_at hl 1 rfl) ?_
    refine s_iald (j := 2) cf hw 1 rfl (rfl) (by decide) rfl dX7_count_71 ?_
    exact s_iret cf hr hlk () hw rfl (Nat.le_of_ble_eq_true rfl) (Nat.le_of_ble_eq_true rfl) dX7_count_72 hQ
  by_cases t1_3 : w = 3
  · refine lv_tableIn (tgt := 66) (off := 65) hx hb dX7_count_1 (by rw [t1_3]; decide) (by rw [t1_3]; decide) (by rw [t1_3]; decide) (by decide) ?_
    subst t1_3
    refine lv_aload_n hx hb dX7_count_66 rfl (lv_at hl 0 rfl) ?_
    refine s_get (v := .ref (ad 0)) fb7 cf hw 0 rfl 0 rfl q921 (hf.2 0 rfl) dX7_count_67 ?_
    refine lv_iload_n hx hb dX7_count_70 rfl (lv_at hl 1 rfl) ?_
    refine s_iald (j := 3) cf hw 1 rfl (rfl) (by decide) rfl dX7_count_71 ?_
    exact s_iret cf hr hlk () hw rfl (Nat.le_of_ble_eq_true rfl) (Nat.le_of_ble_eq_true rfl) dX7_count_72 hQ
  by_cases t1_4 : w = 4
  · refine lv_tableIn (tgt := 66) (off := 65) hx hb dX7_count_1 (by rw [t1_4]; decide) (by rw [t1_4]; decide) (by rw [t1_4]; decide) (by decide) ?_
    subst t1_4
    refine lv_aload_n hx hb dX7_count_66 rfl (lv_at hl 0 rfl) ?_
    refine s_get (v := .ref (ad 0)) fb7 cf hw 0 rfl 0 rfl q921 (hf.2 0 rfl) dX7_count_67 ?_
    refine lv_iload_n hx hb dX7_count_70 rfl (lv_at hl 1 rfl) ?_
    refine s_iald (j := 4) cf hw 1 rfl (rfl) (by decide) rfl dX7_count_71 ?_
    exact s_iret cf hr hlk () hw rfl (Nat.le_of_ble_eq_true rfl) (Nat.le_of_ble_eq_true rfl) dX7_count_72 hQ
  by_cases t1_5 : w = 5
  · refine lv_tableIn (tgt := 73) (off := 72) hx hb dX7_count_1 (by rw [t1_5]; decide) (by rw [t1_5]; decide) (by rw [t1_5]; decide) (by decide) ?_
    refine lv_aload_n hx hb dX7_count_73 rfl (lv_at hl 0 rfl) ?_
    refine s_get (v := .ref (ad 0)) fb7 cf hw 0 rfl 0 rfl q921 (hf.2 0 rfl) dX7_count_74 ?_
    refine lv_bipush (v := 9) hx hb dX7_count_77 (by decide) ?_
    refine s_iald (j := 9) cf hw 1 rfl (rfl) (by decide) rfl dX7_count_79 ?_
    exact s_iret cf hr hlk () hw (by unfold R_count; rw [if_neg t1_0, if_neg t1_1, if_neg t1_2, if_neg t1_3, if_neg t1_4, if_pos t1_5]) (Nat.le_of_ble_eq_true rfl) (Nat.le_of_ble_eq_true rfl) dX7_count_80 hQ
  by_cases t1_6 : w = 6
  · refine lv_tableIn (tgt := 81) (off := 80) hx hb dX7_count_1 (by rw [t1_6]; decide) (by rw [t1_6]; decide) (by rw [t1_6]; decide) (by decide) ?_
    refine lv_aload_n hx hb dX7_count_81 rfl (lv_at hl 0 rfl) ?_
    refine s_get (v := .int wt) fb7 cf hw 0 rfl 38 rfl q959 hwt dX7_count_82 ?_
    exact s_iret cf hr hlk () hw (by unfold R_count; rw [if_neg t1_0, if_neg t1_1, if_neg t1_2, if_neg t1_3, if_neg t1_4, if_neg t1_5, if_pos t1_6]) (Nat.le_of_ble_eq_true rfl) (Nat.le_of_ble_eq_true rfl) dX7_count_85 hQ
  by_cases t1_7 : w = 7
  · refine lv_tableIn (tgt := 86) (off := 85) hx hb dX7_count_1 (by rw [t1_7]; decide) (by rw [t1_7]; decide) (by rw [t1_7]; decide) (by decide) ?_
    refine lv_aload_n hx hb dX7_count_86 rfl (lv_at hl 0 rfl) ?_
    refine s_get (v := .int tp) fb7 cf hw 0 rfl 11 rfl q932 htp dX7_count_87 ?_
    exact s_iret cf hr hlk () hw (by unfold R_count; rw [if_neg t1_0, if_neg t1_1, if_neg t1_2, if_neg t1_3, if_neg t1_4, if_neg t1_5, if_neg t1_6, if_pos t1_7]) (Nat.le_of_ble_eq_true rfl) (Nat.le_of_ble_eq_true rfl) dX7_count_90 hQ
  by_cases t1_8 : w = 8
  · refine lv_tableIn (tgt := 91) (off := 90) hx hb dX7_count_1 (by rw [t1_8]; decide) (by rw [t1_8]; decide) (by rw [t1_8]; decide) (by decide) ?_
    refine lv_aload_n hx hb dX7_count_91 rfl (lv_at hl 0 rfl) ?_
    refine s_get (v := .ref (ad 0)) fb7 cf hw 0 rfl 0 rfl q921 (hf.2 0 rfl) dX7_count_92 ?_
    refine lv_bipush (v := 8) hx hb dX7_count_95 (by decide) ?_
    refine s_iald (j := 8) cf hw 1 rfl (rfl) (by decide) rfl dX7_count_97 ?_
    exact s_iret cf hr hlk () hw (by unfold R_count; rw [if_neg t1_0, if_neg t1_1, if_neg t1_2, if_neg t1_3, if_neg t1_4, if_neg t1_5, if_neg t1_6, if_neg t1_7, if_pos t1_8]) (Nat.le_of_ble_eq_true rfl) (Nat.le_of_ble_eq_true rfl) dX7_count_98 hQ
  refine lv_tableOut (tgt := 99) hx hb dX7_count_1 (by have e0 := lv_neT t1_0 (show (0 : Int32).toInt = 0 from rfl); have e1 := lv_neT t1_1 (show (1 : Int32).toInt = 1 from rfl); have e2 := lv_neT t1_2 (show (2 : Int32).toInt = 2 from rfl); have e3 := lv_neT t1_3 (show (3 : Int32).toInt = 3 from rfl); have e4 := lv_neT t1_4 (show (4 : Int32).toInt = 4 from rfl); have e5 := lv_neT t1_5 (show (5 : Int32).toInt = 5 from rfl); have e6 := lv_neT t1_6 (show (6 : Int32).toInt = 6 from rfl); have e7 := lv_neT t1_7 (show (7 : Int32).toInt = 7 from rfl); have e8 := lv_neT t1_8 (show (8 : Int32).toInt = 8 from rfl); omega) (by decide) ?_
  refine lv_ldc hx hb hown (hts _ q1049) dX7_count_99 ?_
  exact s_iret cf hr hlk () hw (by unfold R_count; rw [if_neg t1_0, if_neg t1_1, if_neg t1_2, if_neg t1_3, if_neg t1_4, if_neg t1_5, if_neg t1_6, if_neg t1_7, if_neg t1_8]) (Nat.le_of_ble_eq_true rfl) (Nat.le_of_ble_eq_true rfl) dX7_count_101 hQ
set_option maxRecDepth 100000 in
set_option maxHeartbeats 4000000 in
theorem m_textTold {l : Launch} {g : GG} {a : Nat} {ad : Nat → Nat} {fs : List Value} (hf : MF ad fs) {d kf wf : DD} {nt : Nat} (hnt : d 9 = nI nt) (hnt14 : nt ≤ 14) (x w : Int32) : Ct l g yX7_textTold cX7_textTold 3 (Option.some Jvm.ClassFile.FieldType.int) 1 0 0 [.ref a, .int x, .int w] [bO a 7 fs, bI g (ad 0) 60 d, bI g (ad 6) 14 kf, bI g (ad 8) 14 wf] (QI g (fun r (_ : Unit) => r = R_textTold d kf wf x w) (fun _ => [bO a 7 fs, bI g (ad 0) 60 d, bI g (ad 6) 14 kf, bI g (ad 8) 14 wf])) := by
  refine Ct.of (by decide) rfl ?_
  intro p e s m args below meth c A H locs ls Qf cf hr hlk hnm hQ hw hl
  have hx := cf.1
  have hb := cf.2.1
  have hml := cf.2.2.1
  have hown := cf.2.2.2.1
  have hts := cf.2.2.2.2
  have hw : WD g A s H locs [bO a 7 fs, bI g (ad 0) 60 d, bI g (ad 6) 14 kf, bI g (ad 8) 14 wf] := hw
  have hl : lv_has ls 3 [(0, .ref a), (1, .int x), (2, .int w)] := hl
  refine lv_iload_n hx hb dX7_textTold_0 rfl (lv_at hl 1 rfl) ?_
  refine lv_i2l (v := (x : Int32).toInt64) hx hb dX7_textTold_1 rfl ?_
  refine lv_lconst (v := (0 : Int32).toInt64) hx hb dX7_textTold_2 (by decide) ?_
  refine lv_aload_n hx hb dX7_textTold_3 rfl (lv_at hl 0 rfl) ?_
  refine s_get (v := .ref (ad 0)) fb7 cf hw 0 rfl 0 rfl q921 (hf.2 0 rfl) dX7_textTold_4 ?_
  refine lv_bipush (v := 9) hx hb dX7_textTold_7 (by decide) ?_
  refine s_iald (j := 9) cf hw 1 rfl (rfl) (by decide) rfl dX7_textTold_9 ?_
  refine lv_iconst (v := 1) hx hb dX7_textTold_10 (by decide) ?_
  refine lv_isub hx hb dX7_textTold_11 ?_
  refine lv_i2l (v := ((d 9) - 1 : Int32).toInt64) hx hb dX7_textTold_12 rfl ?_
  refine s_calli (runS cf (m_in (x : Int32) (0 : Int32) ((d 9) - 1 : Int32)) hw [] (by decide) rfl km_X7_in ks_X7_in q1045 rfl rfl hl.1 rfl dX7_textTold_13) hw [] (by decide) rfl (fun _ => rfl) (fun r_3 u_1 H locs hp_2 hw => ?_)
  have hw : WD g A s H locs [bO a 7 fs, bI g (ad 0) 60 d, bI g (ad 6) 14 kf, bI g (ad 8) 14 wf] := hw
  subst hp_2
  refine lv_if_eq (tgt := 29) hx hb dX7_textTold_16 (by decide) (fun c16 => ?_) (fun c16 => ?_)
  · have c16 := b01_z c16
    refine lv_ldc hx hb hown (hts _ q1049) dX7_textTold_29 ?_
    exact s_iret cf hr hlk () hw (by unfold R_textTold; rw [if_neg (by grind)]) (Nat.le_of_ble_eq_true rfl) (Nat.le_of_ble_eq_true rfl) dX7_textTold_31 hQ
  · have c16 := b01_n c16
    refine lv_iload_n hx hb dX7_textTold_19 rfl (lv_at hl 2 rfl) ?_
    refine lv_i2l (v := (w : Int32).toInt64) hx hb dX7_textTold_20 rfl ?_
    refine lv_lconst (v := (0 : Int32).toInt64) hx hb dX7_textTold_21 (by decide) ?_
    refine lv_lconst (v := (1 : Int32).toInt64) hx hb dX7_textTold_22 (by decide) ?_
    refine s_calli (runS cf (m_in (w : Int32) (0 : Int32) (1 : Int32)) hw [] (by decide) rfl km_X7_in ks_X7_in q1045 rfl rfl hl.1 rfl dX7_textTold_23) hw [] (by decide) rfl (fun _ => rfl) (fun r_6 u_4 H locs hp_5 hw => ?_)
    have hw : WD g A s H locs [bO a 7 fs, bI g (ad 0) 60 d, bI g (ad 6) 14 kf, bI g (ad 8) 14 wf] := hw
    subst hp_5
    refine lv_if_ne (tgt := 32) hx hb dX7_textTold_26 (by decide) (fun c26 => ?_) (fun c26 => ?_)
    · have c26 := b01_n c26
      obtain ⟨j, hjn, hxj, hcl⟩ := below_nat hnt (by omega) c16
      subst hxj
      refine lv_iload_n hx hb dX7_textTold_32 rfl (lv_at hl 2 rfl) ?_
      refine lv_if_ne (tgt := 45) hx hb dX7_textTold_33 (by decide) (fun c33 => ?_) (fun c33 => ?_)
      · refine lv_aload_n hx hb dX7_textTold_45 rfl (lv_at hl 0 rfl) ?_
        refine s_get (v := .ref (ad 8)) fb7 cf hw 0 rfl 8 rfl q929 (hf.2 8 rfl) dX7_textTold_46 ?_
        refine lv_iload_n hx hb dX7_textTold_49 rfl (lv_at hl 1 rfl) ?_
        refine s_iald (j := j) cf hw 3 rfl (rfl) (by omega) rfl dX7_textTold_50 ?_
        exact s_iret cf hr hlk () hw (by unfold R_textTold; rw [if_pos ⟨c16, c26⟩, hcl, if_neg c33]) (Nat.le_of_ble_eq_true rfl) (Nat.le_of_ble_eq_true rfl) dX7_textTold_51 hQ
      · refine lv_aload_n hx hb dX7_textTold_36 rfl (lv_at hl 0 rfl) ?_
        refine s_get (v := .ref (ad 6)) fb7 cf hw 0 rfl 6 rfl q927 (hf.2 6 rfl) dX7_textTold_37 ?_
        refine lv_iload_n hx hb dX7_textTold_40 rfl (lv_at hl 1 rfl) ?_
        refine s_iald (j := j) cf hw 2 rfl (rfl) (by omega) rfl dX7_textTold_41 ?_
        refine lv_goto (tgt := 51) hx hb dX7_textTold_42 (by decide) ?_
        exact s_iret cf hr hlk () hw (by unfold R_textTold; rw [if_pos ⟨c16, c26⟩, hcl, if_pos c33]) (Nat.le_of_ble_eq_true rfl) (Nat.le_of_ble_eq_true rfl) dX7_textTold_51 hQ
    · have c26 := b01_z c26
      refine lv_ldc hx hb hown (hts _ q1049) dX7_textTold_29 ?_
      exact s_iret cf hr hlk () hw (by unfold R_textTold; rw [if_neg (by grind)]) (Nat.le_of_ble_eq_true rfl) (Nat.le_of_ble_eq_true rfl) dX7_textTold_31 hQ
set_option maxRecDepth 100000 in
set_option maxHeartbeats 4000000 in
theorem m_why {l : Launch} {g : GG} {a : Nat} {ad : Nat → Nat} {fs : List Value} (hf : MF ad fs) {d kf : DD} {nt : Nat} (hnt : d 9 = nI nt) (hnt14 : nt ≤ 14) (x : Int32) : Ct l g yX7_why cX7_why 3 (Option.some Jvm.ClassFile.FieldType.int) 1 0 0 [.ref a, .int x] [bO a 7 fs, bI g (ad 0) 60 d, bI g (ad 6) 14 kf] (QI g (fun r (_ : Unit) => r = R_why kf nt x) (fun _ => [bO a 7 fs, bI g (ad 0) 60 d, bI g (ad 6) 14 kf])) := by
  refine Ct.of (by decide) rfl ?_
  intro p e s m args below meth c A H locs ls Qf cf hr hlk hnm hQ hw hl
  have hx := cf.1
  have hb := cf.2.1
  have hml := cf.2.2.1
  have hown := cf.2.2.2.1
  have hts := cf.2.2.2.2
  have hw : WD g A s H locs [bO a 7 fs, bI g (ad 0) 60 d, bI g (ad 6) 14 kf] := hw
  have hl : lv_has ls 3 [(0, .ref a), (1, .int x)] := hl
  refine lv_iload_n hx hb dX7_why_0 rfl (lv_at hl 1 rfl) ?_
  refine lv_i2l (v := (x : Int32).toInt64) hx hb dX7_why_1 rfl ?_
  refine lv_lconst (v := (0 : Int32).toInt64) hx hb dX7_why_2 (by decide) ?_
  refine lv_ldc2 hx hb hown (hts _ q1136) dX7_why_3 ?_
  refine lv_toplr (y := (2 : Int32).toInt64) (by decide) ?_
  refine s_calli (runS cf (m_in (x : Int32) (0 : Int32) (2 : Int32)) hw [] (by decide) rfl km_X7_in ks_X7_in q1045 rfl rfl hl.1 rfl dX7_why_6) hw [] (by decide) rfl (fun _ => rfl) (fun r_3 u_1 H locs hp_2 hw => ?_)
  have hw : WD g A s H locs [bO a 7 fs, bI g (ad 0) 60 d, bI g (ad 6) 14 kf] := hw
  subst hp_2
  refine lv_if_ne (tgt := 15) hx hb dX7_why_9 (by decide) (fun c9 => ?_) (fun c9 => ?_)
  · have c9 := b01_n c9
    refine lv_aload_n hx hb dX7_why_15 rfl (lv_at hl 0 rfl) ?_
    refine lv_iload_n hx hb dX7_why_16 rfl (lv_at hl 1 rfl) ?_
    refine s_calli (runV cf (m_counts (d := d) (kf := kf) hf x nt hnt hnt14) hw [0, 1, 2] (by decide) rfl km_X7_counts ki_X7_counts q1072 (run_recv (ci := 7) (T := TX7) (N := 39) hw 0 rfl rfl) rfl rfl hl.1 rfl dX7_why_17) hw [0, 1, 2] (by decide) rfl (fun _ => rfl) (fun r_6 u_4 H locs hp_5 hw => ?_)
    have hw : WD g A s H locs [bO a 7 fs, bI g (ad 0) 60 d, bI g (ad 6) 14 kf] := hw
    subst hp_5
    refine lv_istore_n (lv' := [(2, .int (cntI (cntF kf x nt))), (0, .ref a), (1, .int x)]) hx hb dX7_why_20 rfl hl (by decide) rfl (fun ls hl => ?_)
    refine lv_iload_n hx hb dX7_why_21 rfl (lv_at hl 0 rfl) ?_
    refine lv_if_ge (tgt := 30) hx hb dX7_why_22 (by decide) (fun c22 => ?_) (fun c22 => ?_)
    · refine lv_iload_n hx hb dX7_why_30 rfl (lv_at hl 0 rfl) ?_
      exact s_iret cf hr hlk () hw (by unfold R_why; rw [if_pos c9]; obtain ⟨j, hj⟩ := cntI_some (Int32.not_lt.mpr c22); rw [hj]; rfl) (Nat.le_of_ble_eq_true rfl) (Nat.le_of_ble_eq_true rfl) dX7_why_31 hQ
    · refine lv_ldc hx hb hown (hts _ q1198) dX7_why_25 ?_
      refine lv_goto (tgt := 31) hx hb dX7_why_27 (by decide) ?_
      exact s_iret cf hr hlk () hw (by unfold R_why; rw [if_pos c9, cntI_none (Int32.not_le.mp c22) (fun j q => by have := (cntF_lt q).1; omega)]) (Nat.le_of_ble_eq_true rfl) (Nat.le_of_ble_eq_true rfl) dX7_why_31 hQ
  · have c9 := b01_z c9
    refine lv_ldc hx hb hown (hts _ q1049) dX7_why_12 ?_
    exact s_iret cf hr hlk () hw (by unfold R_why; rw [if_neg c9]) (Nat.le_of_ble_eq_true rfl) (Nat.le_of_ble_eq_true rfl) dX7_why_14 hQ
set_option maxRecDepth 100000 in
set_option maxHeartbeats 4000000 in
theorem m_tell {l : Launch} {g : GG} {a : Nat} {ad : Nat → Nat} {fs : List Value} (hf : MF ad fs) {ws : DD} {wt : Nat} (hwt : fs[38]? = some (.int (nI wt))) (hwt60 : wt ≤ 60) (v : Int32) : Ct l g yX7_tell cX7_tell 2 (Option.some Jvm.ClassFile.FieldType.int) 0 0 0 [.ref a, .int v] [bO a 7 fs, bI g (ad 37) 60 ws] (QI g (fun r (_ : Unit) => r = if wt = 60 then -1000000003 else nI (wt + 1)) (fun _ => [bO a 7 (if wt = 60 then fs else fs.set 38 (.int (nI (wt + 1)))), bI g (ad 37) 60 (if wt = 60 then ws else upd ws wt v)])) := by
  refine Ct.of (by decide) rfl ?_
  intro p e s m args below meth c A H locs ls Qf cf hr hlk hnm hQ hw hl
  have hx := cf.1
  have hb := cf.2.1
  have hml := cf.2.2.1
  have hown := cf.2.2.2.1
  have hts := cf.2.2.2.2
  have hw : WD g A s H locs [bO a 7 fs, bI g (ad 37) 60 ws] := hw
  have hl : lv_has ls 2 [(0, .ref a), (1, .int v)] := hl
  refine lv_aload_n hx hb dX7_tell_0 rfl (lv_at hl 0 rfl) ?_
  refine s_get (v := .int (nI wt)) fb7 cf hw 0 rfl 38 rfl q959 hwt dX7_tell_1 ?_
  refine lv_bipush (v := 60) hx hb dX7_tell_4 (by decide) ?_
  refine lv_icmp_ne (tgt := 12) hx hb dX7_tell_6 (by decide) (fun c6 => ?_) (fun c6 => ?_)
  · have hlt : ¬ wt = 60 := fun q => c6 (by rw [q]; rfl)
    refine lv_aload_n hx hb dX7_tell_12 rfl (lv_at hl 0 rfl) ?_
    refine s_get (v := .ref (ad 37)) fb7 cf hw 0 rfl 37 rfl q958 (hf.2 37 rfl) dX7_tell_13 ?_
    refine lv_aload_n hx hb dX7_tell_16 rfl (lv_at hl 0 rfl) ?_
    refine s_get (v := .int (nI wt)) fb7 cf hw 0 rfl 38 rfl q959 hwt dX7_tell_17 ?_
    refine lv_iload_n hx hb dX7_tell_20 rfl (lv_at hl 1 rfl) ?_
    refine s_iast (j := wt) cf hw 1 rfl (rfl) (by omega) rfl dX7_tell_21 (fun H locs hw => ?_)
    have hw : WD g A s H locs [bO a 7 fs, bI g (ad 37) 60 (upd ws wt v)] := hw
    refine lv_aload_n hx hb dX7_tell_22 rfl (lv_at hl 0 rfl) ?_
    refine lv_dup hx hb dX7_tell_23 rfl ?_
    refine s_get (v := .int (nI wt)) fb7 cf hw 0 rfl 38 rfl q959 hwt dX7_tell_24 ?_
    refine lv_iconst (v := 1) hx hb dX7_tell_27 (by decide) ?_
    refine lv_iadd hx hb dX7_tell_28 ?_
    refine lv_topr (y := nI (wt + 1)) (nI_1 wt) ?_
    refine s_put (v := .int (nI (wt + 1))) fb7 cf hw 0 rfl 38 rfl q959 rfl rfl rfl (by first | exact hf.len 38 (by decide) | (simp only [List.length_set]; exact hf.len 38 (by decide))) dX7_tell_29 (fun H locs hw => ?_)
    have hw : WD g A s H locs [bO a 7 (fs.set 38 (.int (nI (wt + 1)))), bI g (ad 37) 60 (upd ws wt v)] := hw
    refine lv_aload_n hx hb dX7_tell_32 rfl (lv_at hl 0 rfl) ?_
    refine s_get (v := .int (nI (wt + 1))) fb7 cf hw 0 rfl 38 rfl q959 (List.getElem?_set_self (Nat.le_of_ble_eq_true (by first | exact hf.len 38 (by decide) | (simp only [List.length_set]; exact hf.len 38 (by decide))))) dX7_tell_33 ?_
    exact s_iret cf hr hlk () (by rw [if_neg hlt, if_neg hlt]; exact hw) (by rw [if_neg hlt]) (Nat.le_of_ble_eq_true rfl) (Nat.le_of_ble_eq_true rfl) dX7_tell_36 hQ
  · have h60 : wt = 60 := (nI_eq (b := 60) (by omega) (by omega)).mp c6
    refine lv_ldc hx hb hown (hts _ q1050) dX7_tell_9 ?_
    exact s_iret cf hr hlk () (by rw [if_pos h60, if_pos h60]; exact hw) (by rw [if_pos h60]) (Nat.le_of_ble_eq_true rfl) (Nat.le_of_ble_eq_true rfl) dX7_tell_11 hQ
set_option maxRecDepth 100000 in
set_option maxHeartbeats 4000000 in
theorem m_isSheet {l : Launch} {g : GG} (x : Int32) : Ct l g yX7_isSheet cX7_isSheet 1 (Option.some Jvm.ClassFile.FieldType.boolean) 1 0 0 [.int x] [] (QI g (fun r (_ : Unit) => r = if 0 ≤ x ∧ x ≤ 3 then 1 else 0) (fun _ => [])) := by
  refine Ct.of (by decide) rfl ?_
  intro p e s m args below meth c A H locs ls Qf cf hr hlk hnm hQ hw hl
  have hx := cf.1
  have hb := cf.2.1
  have hml := cf.2.2.1
  have hown := cf.2.2.2.1
  have hts := cf.2.2.2.2
  have hw : WD g A s H locs [] := hw
  have hl : lv_has ls 1 [(0, .int x)] := hl
  refine lv_iload_n hx hb dX7_isSheet_0 rfl (lv_at hl 0 rfl) ?_
  refine lv_i2l (v := (x : Int32).toInt64) hx hb dX7_isSheet_1 rfl ?_
  refine lv_lconst (v := (0 : Int32).toInt64) hx hb dX7_isSheet_2 (by decide) ?_
  refine lv_ldc2 hx hb hown (hts _ q1246) dX7_isSheet_3 ?_
  refine lv_toplr (y := (3 : Int32).toInt64) (by decide) ?_
  refine s_calli (runS cf (m_in (x : Int32) (0 : Int32) (3 : Int32)) hw [] (by decide) rfl km_X7_in ks_X7_in q1045 rfl rfl hl.1 rfl dX7_isSheet_6) hw [] (by decide) rfl (fun _ => rfl) (fun r_3 u_1 H locs hp_2 hw => ?_)
  have hw : WD g A s H locs [] := hw
  subst hp_2
  exact s_zret cf hr hlk () hw rfl (by split <;> rfl) (Nat.le_of_ble_eq_true rfl) (Nat.le_of_ble_eq_true rfl) dX7_isSheet_9 hQ
set_option maxRecDepth 100000 in
set_option maxHeartbeats 4000000 in
theorem m_sheet {l : Launch} {g : GG} {a : Nat} {ad : Nat → Nat} {fs : List Value} (hf : MF ad fs) {so sz nu isn : DD} (x s_ n_ : Int32) : Ct l g yX7_sheet cX7_sheet 5 (Option.some Jvm.ClassFile.FieldType.int) 2 0 0 [.ref a, .int x, .int s_, .int n_] [bO a 7 fs, bI g (ad 24) 4 so, bI g (ad 25) 4 sz, bI g (ad 26) 96 nu, bZ g (ad 27) 96 isn] (QI g (fun r (_ : Unit) => r = R_sheet x s_ n_) (fun _ => [bO a 7 fs, bI g (ad 24) 4 (D_sheet1 so x s_ n_), bI g (ad 25) 4 (D_sheet2 sz x s_ n_), bI g (ad 26) 96 (D_sheet3 nu x s_ n_), bZ g (ad 27) 96 (D_sheet4 isn x s_ n_)])) := by
  refine Ct.of (by decide) rfl ?_
  intro p e s m args below meth c A H locs ls Qf cf hr hlk hnm hQ hw hl
  have hx := cf.1
  have hb := cf.2.1
  have hml := cf.2.2.1
  have hown := cf.2.2.2.1
  have hts := cf.2.2.2.2
  have hw : WD g A s H locs [bO a 7 fs, bI g (ad 24) 4 so, bI g (ad 25) 4 sz, bI g (ad 26) 96 nu, bZ g (ad 27) 96 isn] := hw
  have hl : lv_has ls 5 [(0, .ref a), (1, .int x), (2, .int s_), (3, .int n_)] := hl
  refine lv_iload_n hx hb dX7_sheet_0 rfl (lv_at hl 1 rfl) ?_
  refine s_calli (runS cf (m_isSheet x) hw [] (by decide) rfl km_X7_isSheet ks_X7_isSheet q1243 rfl rfl hl.1 rfl dX7_sheet_1) hw [] (by decide) rfl (fun _ => rfl) (fun r_3 u_1 H locs hp_2 hw => ?_)
  have hw : WD g A s H locs [bO a 7 fs, bI g (ad 24) 4 so, bI g (ad 25) 4 sz, bI g (ad 26) 96 nu, bZ g (ad 27) 96 isn] := hw
  subst hp_2
  refine lv_if_eq (tgt := 29) hx hb dX7_sheet_4 (by decide) (fun c4 => ?_) (fun c4 => ?_)
  · have c4 := b01_z c4
    refine lv_ldc hx hb hown (hts _ q1049) dX7_sheet_29 ?_
    exact s_iret cf hr hlk () (by rw [show D_sheet1 so x s_ n_ = so from if_neg (by grind), show D_sheet2 sz x s_ n_ = sz from if_neg (by grind), show D_sheet3 nu x s_ n_ = nu from if_neg (by grind), show D_sheet4 isn x s_ n_ = isn from if_neg (by grind)]; exact hw) (by unfold R_sheet; rw [if_pos (by grind)]) (Nat.le_of_ble_eq_true rfl) (Nat.le_of_ble_eq_true rfl) dX7_sheet_31 hQ
  · have c4 := b01_n c4
    refine lv_iload_n hx hb dX7_sheet_7 rfl (lv_at hl 2 rfl) ?_
    refine lv_i2l (v := (s_ : Int32).toInt64) hx hb dX7_sheet_8 rfl ?_
    refine lv_ldc2 hx hb hown (hts _ q1278) dX7_sheet_9 ?_
    refine lv_toplr (y := (-1 : Int32).toInt64) (by decide) ?_
    refine lv_lconst (v := (1 : Int32).toInt64) hx hb dX7_sheet_12 (by decide) ?_
    refine s_calli (runS cf (m_in (s_ : Int32) (-1 : Int32) (1 : Int32)) hw [] (by decide) rfl km_X7_in ks_X7_in q1045 rfl rfl hl.1 rfl dX7_sheet_13) hw [] (by decide) rfl (fun _ => rfl) (fun r_6 u_4 H locs hp_5 hw => ?_)
    have hw : WD g A s H locs [bO a 7 fs, bI g (ad 24) 4 so, bI g (ad 25) 4 sz, bI g (ad 26) 96 nu, bZ g (ad 27) 96 isn] := hw
    subst hp_5
    refine lv_if_eq (tgt := 29) hx hb dX7_sheet_16 (by decide) (fun c16 => ?_) (fun c16 => ?_)
    · have c16 := b01_z c16
      refine lv_ldc hx hb hown (hts _ q1049) dX7_sheet_29 ?_
      exact s_iret cf hr hlk () (by rw [show D_sheet1 so x s_ n_ = so from if_neg (by grind), show D_sheet2 sz x s_ n_ = sz from if_neg (by grind), show D_sheet3 nu x s_ n_ = nu from if_neg (by grind), show D_sheet4 isn x s_ n_ = isn from if_neg (by grind)]; exact hw) (by unfold R_sheet; rw [if_pos (by grind)]) (Nat.le_of_ble_eq_true rfl) (Nat.le_of_ble_eq_true rfl) dX7_sheet_31 hQ
    · have c16 := b01_n c16
      refine lv_iload_n hx hb dX7_sheet_19 rfl (lv_at hl 2 rfl) ?_
      refine lv_if_lt (tgt := 32) hx hb dX7_sheet_20 (by decide) (fun c20 => ?_) (fun c20 => ?_)
      · refine lv_iload_n hx hb dX7_sheet_32 rfl (lv_at hl 2 rfl) ?_
        refine lv_if_lt (tgt := 44) hx hb dX7_sheet_33 (by decide) (fun c33 => ?_) (fun c33 => ?_)
        · have hok : okSheet x s_ n_ := ⟨by grind, by grind⟩
          obtain ⟨k, hk, hkx⟩ := rng_nat (m := 3) (by omega) c4.1 c4.2
          subst hkx
          have hclk : (nI k).toNatClampNeg = k := nI_clamp (by omega)
          refine lv_aload_n hx hb dX7_sheet_44 rfl (lv_at hl 0 rfl) ?_
          refine s_get (v := .ref (ad 24)) fb7 cf hw 0 rfl 24 rfl q945 (hf.2 24 rfl) dX7_sheet_45 ?_
          refine lv_iload_n hx hb dX7_sheet_48 rfl (lv_at hl 1 rfl) ?_
          refine lv_iload_n hx hb dX7_sheet_49 rfl (lv_at hl 2 rfl) ?_
          refine s_iast (j := k) cf hw 1 rfl (rfl) (by omega) rfl dX7_sheet_50 (fun H locs hw => ?_)
          have hw : WD g A s H locs [bO a 7 fs, bI g (ad 24) 4 (upd so k s_), bI g (ad 25) 4 sz, bI g (ad 26) 96 nu, bZ g (ad 27) 96 isn] := hw
          refine lv_aload_n hx hb dX7_sheet_51 rfl (lv_at hl 0 rfl) ?_
          refine s_get (v := .ref (ad 25)) fb7 cf hw 0 rfl 25 rfl q946 (hf.2 25 rfl) dX7_sheet_52 ?_
          refine lv_iload_n hx hb dX7_sheet_55 rfl (lv_at hl 1 rfl) ?_
          refine lv_iload_n hx hb dX7_sheet_56 rfl (lv_at hl 2 rfl) ?_
          refine lv_if_ge (tgt := 64) hx hb dX7_sheet_57 (by decide) (fun c57 => ?_) (fun c57 => ?_)
          · refine lv_iload_n hx hb dX7_sheet_64 rfl (lv_at hl 3 rfl) ?_
            refine lv_topr (y := if s_ < 0 then 0 else n_) (by grind) ?_
            refine s_iast (j := k) cf hw 2 rfl (rfl) (by omega) rfl dX7_sheet_65 (fun H locs hw => ?_)
            have hw : WD g A s H locs [bO a 7 fs, bI g (ad 24) 4 (upd so k s_), bI g (ad 25) 4 (upd sz k (if s_ < 0 then 0 else n_)), bI g (ad 26) 96 nu, bZ g (ad 27) 96 isn] := hw
            refine lv_iconst (v := 0) hx hb dX7_sheet_66 (by decide) ?_
            refine lv_istore (lv' := [(4, .int 0), (0, .ref a), (1, .int (nI k)), (2, .int s_), (3, .int n_)]) hx hb dX7_sheet_67 hl (by decide) rfl (fun ls hl => ?_)
            have L69 : ∀ (fu : Nat) (i : Nat), (i ≤ 24) → (24 < i + fu) → ∀ (H : Heap) (locs : List Loc) (ls : Array Slot), WD g A s H locs [bO a 7 fs, bI g (ad 24) 4 (upd so k s_), bI g (ad 25) 4 (upd sz k (if s_ < 0 then 0 else n_)), bI g (ad 26) 96 (fillF (24 * k) 0 i nu), bZ g (ad 27) 96 (fillF (24 * k) 1 i isn)] → lv_has ls 5 [(0, .ref a), (1, .int (nI k)), (2, .int s_), (3, .int n_), (4, .int (nI i))] → W p l e (rmx 2 0 0) s m args below meth c H locs 0 0 Qf (F0 m 69 ls []) := by
              intro fu
              induction fu with
              | zero => intro i hi hfu; exfalso; omega
              | succ fu ih69 =>
                intro i hi hfu H locs ls hw hl
                refine lv_iload hx hb dX7_sheet_69 (lv_at hl 4 rfl) ?_
                refine lv_bipush (v := 24) hx hb dX7_sheet_71 (by decide) ?_
                refine lv_icmp_ge (tgt := 108) hx hb dX7_sheet_73 (by decide) (fun c73 => ?_) (fun c73 => ?_)
                · have hi2 : i = 24 := by have := nI_le_of (n := 24) (by omega) c73 (by omega); omega
                  refine lv_aload_n hx hb dX7_sheet_108 rfl (lv_at hl 0 rfl) ?_
                  refine s_get (v := .ref (ad 25)) fb7 cf hw 0 rfl 25 rfl q946 (hf.2 25 rfl) dX7_sheet_109 ?_
                  refine lv_iload_n hx hb dX7_sheet_112 rfl (lv_at hl 1 rfl) ?_
                  refine s_iald (j := k) cf hw 2 rfl (rfl) (by omega) rfl dX7_sheet_113 ?_
                  exact s_iret cf hr hlk () (by rw [show D_sheet1 so (nI k) s_ n_ = upd so k s_ from (if_pos hok).trans (by rw [hclk]), show D_sheet2 sz (nI k) s_ n_ = upd sz k (if s_ < 0 then 0 else n_) from (if_pos hok).trans (by rw [hclk]), show D_sheet3 nu (nI k) s_ n_ = fillF (24 * k) 0 i nu from (if_pos hok).trans (by rw [hclk, ← hi2]), show D_sheet4 isn (nI k) s_ n_ = fillF (24 * k) 1 i isn from (if_pos hok).trans (by rw [hclk, ← hi2])]; exact hw) (by unfold R_sheet; rw [if_neg hok.1, if_neg hok.2, upd_eq]) (Nat.le_of_ble_eq_true rfl) (Nat.le_of_ble_eq_true rfl) dX7_sheet_114 hQ
                · have hlt : i < 24 := nI_lt_of (n := 24) (by omega) c73 (by omega)
                  refine lv_aload_n hx hb dX7_sheet_76 rfl (lv_at hl 0 rfl) ?_
                  refine s_get (v := .ref (ad 26)) fb7 cf hw 0 rfl 26 rfl q947 (hf.2 26 rfl) dX7_sheet_77 ?_
                  refine lv_bipush (v := 24) hx hb dX7_sheet_80 (by decide) ?_
                  refine lv_iload_n hx hb dX7_sheet_82 rfl (lv_at hl 1 rfl) ?_
                  refine lv_imul hx hb dX7_sheet_83 ?_
                  refine lv_iload hx hb dX7_sheet_84 (lv_at hl 4 rfl) ?_
                  refine lv_iadd hx hb dX7_sheet_86 ?_
                  refine lv_iconst (v := 0) hx hb dX7_sheet_87 (by decide) ?_
                  refine s_iast (j := (24 * k + i)) cf hw 3 rfl (ix24 k i) (by omega) rfl dX7_sheet_88 (fun H locs hw => ?_)
                  have hw : WD g A s H locs [bO a 7 fs, bI g (ad 24) 4 (upd so k s_), bI g (ad 25) 4 (upd sz k (if s_ < 0 then 0 else n_)), bI g (ad 26) 96 (upd (fillF (24 * k) 0 i nu) (24 * k + i) 0), bZ g (ad 27) 96 (fillF (24 * k) 1 i isn)] := hw
                  refine lv_aload_n hx hb dX7_sheet_89 rfl (lv_at hl 0 rfl) ?_
                  refine s_get (v := .ref (ad 27)) fb7 cf hw 0 rfl 27 rfl q948 (hf.2 27 rfl) dX7_sheet_90 ?_
                  refine lv_bipush (v := 24) hx hb dX7_sheet_93 (by decide) ?_
                  refine lv_iload_n hx hb dX7_sheet_95 rfl (lv_at hl 1 rfl) ?_
                  refine lv_imul hx hb dX7_sheet_96 ?_
                  refine lv_iload hx hb dX7_sheet_97 (lv_at hl 4 rfl) ?_
                  refine lv_iadd hx hb dX7_sheet_99 ?_
                  refine lv_iconst (v := 1) hx hb dX7_sheet_100 (by decide) ?_
                  refine s_zast (j := (24 * k + i)) cf hw 4 rfl (ix24 k i) (by omega) rfl (by decide) dX7_sheet_101 (fun H locs hw => ?_)
                  have hw : WD g A s H locs [bO a 7 fs, bI g (ad 24) 4 (upd so k s_), bI g (ad 25) 4 (upd sz k (if s_ < 0 then 0 else n_)), bI g (ad 26) 96 (upd (fillF (24 * k) 0 i nu) (24 * k + i) 0), bZ g (ad 27) 96 (upd (fillF (24 * k) 1 i isn) (24 * k + i) 1)] := hw
                  refine lv_iinc (v := nI (i + 1)) (lv' := [(4, .int (nI (i + 1))), (0, .ref a), (1, .int (nI k)), (2, .int s_), (3, .int n_)]) hx hb dX7_sheet_102 hl (k := 4) rfl (nI_1 i) (by decide) rfl (fun ls hl => ?_)
                  refine lv_goto (tgt := 69) hx hb dX7_sheet_105 (by decide) ?_
                  exact ih69 (i + 1) (by omega) (by omega) _ _ _ hw (lv_sub hl [1, 2, 3, 4, 0] rfl)
            exact L69 25 0 (by omega) (by omega) _ _ _ hw (lv_sub hl [1, 2, 3, 4, 0] rfl)
          · refine lv_iconst (v := 0) hx hb dX7_sheet_60 (by decide) ?_
            refine lv_goto (tgt := 65) hx hb dX7_sheet_61 (by decide) ?_
            refine lv_topr (y := if s_ < 0 then 0 else n_) (by grind) ?_
            refine s_iast (j := k) cf hw 2 rfl (rfl) (by omega) rfl dX7_sheet_65 (fun H locs hw => ?_)
            have hw : WD g A s H locs [bO a 7 fs, bI g (ad 24) 4 (upd so k s_), bI g (ad 25) 4 (upd sz k (if s_ < 0 then 0 else n_)), bI g (ad 26) 96 nu, bZ g (ad 27) 96 isn] := hw
            refine lv_iconst (v := 0) hx hb dX7_sheet_66 (by decide) ?_
            refine lv_istore (lv' := [(4, .int 0), (0, .ref a), (1, .int (nI k)), (2, .int s_), (3, .int n_)]) hx hb dX7_sheet_67 hl (by decide) rfl (fun ls hl => ?_)
            have L69 : ∀ (fu : Nat) (i : Nat), (i ≤ 24) → (24 < i + fu) → ∀ (H : Heap) (locs : List Loc) (ls : Array Slot), WD g A s H locs [bO a 7 fs, bI g (ad 24) 4 (upd so k s_), bI g (ad 25) 4 (upd sz k (if s_ < 0 then 0 else n_)), bI g (ad 26) 96 (fillF (24 * k) 0 i nu), bZ g (ad 27) 96 (fillF (24 * k) 1 i isn)] → lv_has ls 5 [(0, .ref a), (1, .int (nI k)), (2, .int s_), (3, .int n_), (4, .int (nI i))] → W p l e (rmx 2 0 0) s m args below meth c H locs 0 0 Qf (F0 m 69 ls []) := by
              intro fu
              induction fu with
              | zero => intro i hi hfu; exfalso; omega
              | succ fu ih69 =>
                intro i hi hfu H locs ls hw hl
                refine lv_iload hx hb dX7_sheet_69 (lv_at hl 4 rfl) ?_
                refine lv_bipush (v := 24) hx hb dX7_sheet_71 (by decide) ?_
                refine lv_icmp_ge (tgt := 108) hx hb dX7_sheet_73 (by decide) (fun c73 => ?_) (fun c73 => ?_)
                · have hi2 : i = 24 := by have := nI_le_of (n := 24) (by omega) c73 (by omega); omega
                  refine lv_aload_n hx hb dX7_sheet_108 rfl (lv_at hl 0 rfl) ?_
                  refine s_get (v := .ref (ad 25)) fb7 cf hw 0 rfl 25 rfl q946 (hf.2 25 rfl) dX7_sheet_109 ?_
                  refine lv_iload_n hx hb dX7_sheet_112 rfl (lv_at hl 1 rfl) ?_
                  refine s_iald (j := k) cf hw 2 rfl (rfl) (by omega) rfl dX7_sheet_113 ?_
                  exact s_iret cf hr hlk () (by rw [show D_sheet1 so (nI k) s_ n_ = upd so k s_ from (if_pos hok).trans (by rw [hclk]), show D_sheet2 sz (nI k) s_ n_ = upd sz k (if s_ < 0 then 0 else n_) from (if_pos hok).trans (by rw [hclk]), show D_sheet3 nu (nI k) s_ n_ = fillF (24 * k) 0 i nu from (if_pos hok).trans (by rw [hclk, ← hi2]), show D_sheet4 isn (nI k) s_ n_ = fillF (24 * k) 1 i isn from (if_pos hok).trans (by rw [hclk, ← hi2])]; exact hw) (by unfold R_sheet; rw [if_neg hok.1, if_neg hok.2, upd_eq]) (Nat.le_of_ble_eq_true rfl) (Nat.le_of_ble_eq_true rfl) dX7_sheet_114 hQ
                · have hlt : i < 24 := nI_lt_of (n := 24) (by omega) c73 (by omega)
                  refine lv_aload_n hx hb dX7_sheet_76 rfl (lv_at hl 0 rfl) ?_
                  refine s_get (v := .ref (ad 26)) fb7 cf hw 0 rfl 26 rfl q947 (hf.2 26 rfl) dX7_sheet_77 ?_
                  refine lv_bipush (v := 24) hx hb dX7_sheet_80 (by decide) ?_
                  refine lv_iload_n hx hb dX7_sheet_82 rfl (lv_at hl 1 rfl) ?_
                  refine lv_imul hx hb dX7_sheet_83 ?_
                  refine lv_iload hx hb dX7_sheet_84 (lv_at hl 4 rfl) ?_
                  refine lv_iadd hx hb dX7_sheet_86 ?_
                  refine lv_iconst (v := 0) hx hb dX7_sheet_87 (by decide) ?_
                  refine s_iast (j := (24 * k + i)) cf hw 3 rfl (ix24 k i) (by omega) rfl dX7_sheet_88 (fun H locs hw => ?_)
                  have hw : WD g A s H locs [bO a 7 fs, bI g (ad 24) 4 (upd so k s_), bI g (ad 25) 4 (upd sz k (if s_ < 0 then 0 else n_)), bI g (ad 26) 96 (upd (fillF (24 * k) 0 i nu) (24 * k + i) 0), bZ g (ad 27) 96 (fillF (24 * k) 1 i isn)] := hw
                  refine lv_aload_n hx hb dX7_sheet_89 rfl (lv_at hl 0 rfl) ?_
                  refine s_get (v := .ref (ad 27)) fb7 cf hw 0 rfl 27 rfl q948 (hf.2 27 rfl) dX7_sheet_90 ?_
                  refine lv_bipush (v := 24) hx hb dX7_sheet_93 (by decide) ?_
                  refine lv_iload_n hx hb dX7_sheet_95 rfl (lv_at hl 1 rfl) ?_
                  refine lv_imul hx hb dX7_sheet_96 ?_
                  refine lv_iload hx hb dX7_sheet_97 (lv_at hl 4 rfl) ?_
                  refine lv_iadd hx hb dX7_sheet_99 ?_
                  refine lv_iconst (v := 1) hx hb dX7_sheet_100 (by decide) ?_
                  refine s_zast (j := (24 * k + i)) cf hw 4 rfl (ix24 k i) (by omega) rfl (by decide) dX7_sheet_101 (fun H locs hw => ?_)
                  have hw : WD g A s H locs [bO a 7 fs, bI g (ad 24) 4 (upd so k s_), bI g (ad 25) 4 (upd sz k (if s_ < 0 then 0 else n_)), bI g (ad 26) 96 (upd (fillF (24 * k) 0 i nu) (24 * k + i) 0), bZ g (ad 27) 96 (upd (fillF (24 * k) 1 i isn) (24 * k + i) 1)] := hw
                  refine lv_iinc (v := nI (i + 1)) (lv' := [(4, .int (nI (i + 1))), (0, .ref a), (1, .int (nI k)), (2, .int s_), (3, .int n_)]) hx hb dX7_sheet_102 hl (k := 4) rfl (nI_1 i) (by decide) rfl (fun ls hl => ?_)
                  refine lv_goto (tgt := 69) hx hb dX7_sheet_105 (by decide) ?_
                  exact ih69 (i + 1) (by omega) (by omega) _ _ _ hw (lv_sub hl [1, 2, 3, 4, 0] rfl)
            exact L69 25 0 (by omega) (by omega) _ _ _ hw (lv_sub hl [1, 2, 3, 4, 0] rfl)
        · refine lv_iload_n hx hb dX7_sheet_36 rfl (lv_at hl 3 rfl) ?_
          refine lv_if_ge (tgt := 44) hx hb dX7_sheet_37 (by decide) (fun c37 => ?_) (fun c37 => ?_)
          · have hok : okSheet x s_ n_ := ⟨by grind, by grind⟩
            obtain ⟨k, hk, hkx⟩ := rng_nat (m := 3) (by omega) c4.1 c4.2
            subst hkx
            have hclk : (nI k).toNatClampNeg = k := nI_clamp (by omega)
            refine lv_aload_n hx hb dX7_sheet_44 rfl (lv_at hl 0 rfl) ?_
            refine s_get (v := .ref (ad 24)) fb7 cf hw 0 rfl 24 rfl q945 (hf.2 24 rfl) dX7_sheet_45 ?_
            refine lv_iload_n hx hb dX7_sheet_48 rfl (lv_at hl 1 rfl) ?_
            refine lv_iload_n hx hb dX7_sheet_49 rfl (lv_at hl 2 rfl) ?_
            refine s_iast (j := k) cf hw 1 rfl (rfl) (by omega) rfl dX7_sheet_50 (fun H locs hw => ?_)
            have hw : WD g A s H locs [bO a 7 fs, bI g (ad 24) 4 (upd so k s_), bI g (ad 25) 4 sz, bI g (ad 26) 96 nu, bZ g (ad 27) 96 isn] := hw
            refine lv_aload_n hx hb dX7_sheet_51 rfl (lv_at hl 0 rfl) ?_
            refine s_get (v := .ref (ad 25)) fb7 cf hw 0 rfl 25 rfl q946 (hf.2 25 rfl) dX7_sheet_52 ?_
            refine lv_iload_n hx hb dX7_sheet_55 rfl (lv_at hl 1 rfl) ?_
            refine lv_iload_n hx hb dX7_sheet_56 rfl (lv_at hl 2 rfl) ?_
            refine lv_if_ge (tgt := 64) hx hb dX7_sheet_57 (by decide) (fun c57 => ?_) (fun c57 => ?_)
            · refine lv_iload_n hx hb dX7_sheet_64 rfl (lv_at hl 3 rfl) ?_
              refine lv_topr (y := if s_ < 0 then 0 else n_) (by grind) ?_
              refine s_iast (j := k) cf hw 2 rfl (rfl) (by omega) rfl dX7_sheet_65 (fun H locs hw => ?_)
              have hw : WD g A s H locs [bO a 7 fs, bI g (ad 24) 4 (upd so k s_), bI g (ad 25) 4 (upd sz k (if s_ < 0 then 0 else n_)), bI g (ad 26) 96 nu, bZ g (ad 27) 96 isn] := hw
              refine lv_iconst (v := 0) hx hb dX7_sheet_66 (by decide) ?_
              refine lv_istore (lv' := [(4, .int 0), (0, .ref a), (1, .int (nI k)), (2, .int s_), (3, .int n_)]) hx hb dX7_sheet_67 hl (by decide) rfl (fun ls hl => ?_)
              have L69 : ∀ (fu : Nat) (i : Nat), (i ≤ 24) → (24 < i + fu) → ∀ (H : Heap) (locs : List Loc) (ls : Array Slot), WD g A s H locs [bO a 7 fs, bI g (ad 24) 4 (upd so k s_), bI g (ad 25) 4 (upd sz k (if s_ < 0 then 0 else n_)), bI g (ad 26) 96 (fillF (24 * k) 0 i nu), bZ g (ad 27) 96 (fillF (24 * k) 1 i isn)] → lv_has ls 5 [(0, .ref a), (1, .int (nI k)), (2, .int s_), (3, .int n_), (4, .int (nI i))] → W p l e (rmx 2 0 0) s m args below meth c H locs 0 0 Qf (F0 m 69 ls []) := by
                intro fu
                induction fu with
                | zero => intro i hi hfu; exfalso; omega
                | succ fu ih69 =>
                  intro i hi hfu H locs ls hw hl
                  refine lv_iload hx hb dX7_sheet_69 (lv_at hl 4 rfl) ?_
                  refine lv_bipush (v := 24) hx hb dX7_sheet_71 (by decide) ?_
                  refine lv_icmp_ge (tgt := 108) hx hb dX7_sheet_73 (by decide) (fun c73 => ?_) (fun c73 => ?_)
                  · have hi2 : i = 24 := by have := nI_le_of (n := 24) (by omega) c73 (by omega); omega
                    refine lv_aload_n hx hb dX7_sheet_108 rfl (lv_at hl 0 rfl) ?_
                    refine s_get (v := .ref (ad 25)) fb7 cf hw 0 rfl 25 rfl q946 (hf.2 25 rfl) dX7_sheet_109 ?_
                    refine lv_iload_n hx hb dX7_sheet_112 rfl (lv_at hl 1 rfl) ?_
                    refine s_iald (j := k) cf hw 2 rfl (rfl) (by omega) rfl dX7_sheet_113 ?_
                    exact s_iret cf hr hlk () (by rw [show D_sheet1 so (nI k) s_ n_ = upd so k s_ from (if_pos hok).trans (by rw [hclk]), show D_sheet2 sz (nI k) s_ n_ = upd sz k (if s_ < 0 then 0 else n_) from (if_pos hok).trans (by rw [hclk]), show D_sheet3 nu (nI k) s_ n_ = fillF (24 * k) 0 i nu from (if_pos hok).trans (by rw [hclk, ← hi2]), show D_sheet4 isn (nI k) s_ n_ = fillF (24 * k) 1 i isn from (if_pos hok).trans (by rw [hclk, ← hi2])]; exact hw) (by unfold R_sheet; rw [if_neg hok.1, if_neg hok.2, upd_eq]) (Nat.le_of_ble_eq_true rfl) (Nat.le_of_ble_eq_true rfl) dX7_sheet_114 hQ
                  · have hlt : i < 24 := nI_lt_of (n := 24) (by omega) c73 (by omega)
                    refine lv_aload_n hx hb dX7_sheet_76 rfl (lv_at hl 0 rfl) ?_
                    refine s_get (v := .ref (ad 26)) fb7 cf hw 0 rfl 26 rfl q947 (hf.2 26 rfl) dX7_sheet_77 ?_
                    refine lv_bipush (v := 24) hx hb dX7_sheet_80 (by decide) ?_
                    refine lv_iload_n hx hb dX7_sheet_82 rfl (lv_at hl 1 rfl) ?_
                    refine lv_imul hx hb dX7_sheet_83 ?_
                    refine lv_iload hx hb dX7_sheet_84 (lv_at hl 4 rfl) ?_
                    refine lv_iadd hx hb dX7_sheet_86 ?_
                    refine lv_iconst (v := 0) hx hb dX7_sheet_87 (by decide) ?_
                    refine s_iast (j := (24 * k + i)) cf hw 3 rfl (ix24 k i) (by omega) rfl dX7_sheet_88 (fun H locs hw => ?_)
                    have hw : WD g A s H locs [bO a 7 fs, bI g (ad 24) 4 (upd so k s_), bI g (ad 25) 4 (upd sz k (if s_ < 0 then 0 else n_)), bI g (ad 26) 96 (upd (fillF (24 * k) 0 i nu) (24 * k + i) 0), bZ g (ad 27) 96 (fillF (24 * k) 1 i isn)] := hw
                    refine lv_aload_n hx hb dX7_sheet_89 rfl (lv_at hl 0 rfl) ?_
                    refine s_get (v := .ref (ad 27)) fb7 cf hw 0 rfl 27 rfl q948 (hf.2 27 rfl) dX7_sheet_90 ?_
                    refine lv_bipush (v := 24) hx hb dX7_sheet_93 (by decide) ?_
                    refine lv_iload_n hx hb dX7_sheet_95 rfl (lv_at hl 1 rfl) ?_
                    refine lv_imul hx hb dX7_sheet_96 ?_
                    refine lv_iload hx hb dX7_sheet_97 (lv_at hl 4 rfl) ?_
                    refine lv_iadd hx hb dX7_sheet_99 ?_
                    refine lv_iconst (v := 1) hx hb dX7_sheet_100 (by decide) ?_
                    refine s_zast (j := (24 * k + i)) cf hw 4 rfl (ix24 k i) (by omega) rfl (by decide) dX7_sheet_101 (fun H locs hw => ?_)
                    have hw : WD g A s H locs [bO a 7 fs, bI g (ad 24) 4 (upd so k s_), bI g (ad 25) 4 (upd sz k (if s_ < 0 then 0 else n_)), bI g (ad 26) 96 (upd (fillF (24 * k) 0 i nu) (24 * k + i) 0), bZ g (ad 27) 96 (upd (fillF (24 * k) 1 i isn) (24 * k + i) 1)] := hw
                    refine lv_iinc (v := nI (i + 1)) (lv' := [(4, .int (nI (i + 1))), (0, .ref a), (1, .int (nI k)), (2, .int s_), (3, .int n_)]) hx hb dX7_sheet_102 hl (k := 4) rfl (nI_1 i) (by decide) rfl (fun ls hl => ?_)
                    refine lv_goto (tgt := 69) hx hb dX7_sheet_105 (by decide) ?_
                    exact ih69 (i + 1) (by omega) (by omega) _ _ _ hw (lv_sub hl [1, 2, 3, 4, 0] rfl)
              exact L69 25 0 (by omega) (by omega) _ _ _ hw (lv_sub hl [1, 2, 3, 4, 0] rfl)
            · refine lv_iconst (v := 0) hx hb dX7_sheet_60 (by decide) ?_
              refine lv_goto (tgt := 65) hx hb dX7_sheet_61 (by decide) ?_
              refine lv_topr (y := if s_ < 0 then 0 else n_) (by grind) ?_
              refine s_iast (j := k) cf hw 2 rfl (rfl) (by omega) rfl dX7_sheet_65 (fun H locs hw => ?_)
              have hw : WD g A s H locs [bO a 7 fs, bI g (ad 24) 4 (upd so k s_), bI g (ad 25) 4 (upd sz k (if s_ < 0 then 0 else n_)), bI g (ad 26) 96 nu, bZ g (ad 27) 96 isn] := hw
              refine lv_iconst (v := 0) hx hb dX7_sheet_66 (by decide) ?_
              refine lv_istore (lv' := [(4, .int 0), (0, .ref a), (1, .int (nI k)), (2, .int s_), (3, .int n_)]) hx hb dX7_sheet_67 hl (by decide) rfl (fun ls hl => ?_)
              have L69 : ∀ (fu : Nat) (i : Nat), (i ≤ 24) → (24 < i + fu) → ∀ (H : Heap) (locs : List Loc) (ls : Array Slot), WD g A s H locs [bO a 7 fs, bI g (ad 24) 4 (upd so k s_), bI g (ad 25) 4 (upd sz k (if s_ < 0 then 0 else n_)), bI g (ad 26) 96 (fillF (24 * k) 0 i nu), bZ g (ad 27) 96 (fillF (24 * k) 1 i isn)] → lv_has ls 5 [(0, .ref a), (1, .int (nI k)), (2, .int s_), (3, .int n_), (4, .int (nI i))] → W p l e (rmx 2 0 0) s m args below meth c H locs 0 0 Qf (F0 m 69 ls []) := by
                intro fu
                induction fu with
                | zero => intro i hi hfu; exfalso; omega
                | succ fu ih69 =>
                  intro i hi hfu H locs ls hw hl
                  refine lv_iload hx hb dX7_sheet_69 (lv_at hl 4 rfl) ?_
                  refine lv_bipush (v := 24) hx hb dX7_sheet_71 (by decide) ?_
                  refine lv_icmp_ge (tgt := 108) hx hb dX7_sheet_73 (by decide) (fun c73 => ?_) (fun c73 => ?_)
                  · have hi2 : i = 24 := by have := nI_le_of (n := 24) (by omega) c73 (by omega); omega
                    refine lv_aload_n hx hb dX7_sheet_108 rfl (lv_at hl 0 rfl) ?_
                    refine s_get (v := .ref (ad 25)) fb7 cf hw 0 rfl 25 rfl q946 (hf.2 25 rfl) dX7_sheet_109 ?_
                    refine lv_iload_n hx hb dX7_sheet_112 rfl (lv_at hl 1 rfl) ?_
                    refine s_iald (j := k) cf hw 2 rfl (rfl) (by omega) rfl dX7_sheet_113 ?_
                    exact s_iret cf hr hlk () (by rw [show D_sheet1 so (nI k) s_ n_ = upd so k s_ from (if_pos hok).trans (by rw [hclk]), show D_sheet2 sz (nI k) s_ n_ = upd sz k (if s_ < 0 then 0 else n_) from (if_pos hok).trans (by rw [hclk]), show D_sheet3 nu (nI k) s_ n_ = fillF (24 * k) 0 i nu from (if_pos hok).trans (by rw [hclk, ← hi2]), show D_sheet4 isn (nI k) s_ n_ = fillF (24 * k) 1 i isn from (if_pos hok).trans (by rw [hclk, ← hi2])]; exact hw) (by unfold R_sheet; rw [if_neg hok.1, if_neg hok.2, upd_eq]) (Nat.le_of_ble_eq_true rfl) (Nat.le_of_ble_eq_true rfl) dX7_sheet_114 hQ
                  · have hlt : i < 24 := nI_lt_of (n := 24) (by omega) c73 (by omega)
                    refine lv_aload_n hx hb dX7_sheet_76 rfl (lv_at hl 0 rfl) ?_
                    refine s_get (v := .ref (ad 26)) fb7 cf hw 0 rfl 26 rfl q947 (hf.2 26 rfl) dX7_sheet_77 ?_
                    refine lv_bipush (v := 24) hx hb dX7_sheet_80 (by decide) ?_
                    refine lv_iload_n hx hb dX7_sheet_82 rfl (lv_at hl 1 rfl) ?_
                    refine lv_imul hx hb dX7_sheet_83 ?_
                    refine lv_iload hx hb dX7_sheet_84 (lv_at hl 4 rfl) ?_
                    refine lv_iadd hx hb dX7_sheet_86 ?_
                    refine lv_iconst (v := 0) hx hb dX7_sheet_87 (by decide) ?_
                    refine s_iast (j := (24 * k + i)) cf hw 3 rfl (ix24 k i) (by omega) rfl dX7_sheet_88 (fun H locs hw => ?_)
                    have hw : WD g A s H locs [bO a 7 fs, bI g (ad 24) 4 (upd so k s_), bI g (ad 25) 4 (upd sz k (if s_ < 0 then 0 else n_)), bI g (ad 26) 96 (upd (fillF (24 * k) 0 i nu) (24 * k + i) 0), bZ g (ad 27) 96 (fillF (24 * k) 1 i isn)] := hw
                    refine lv_aload_n hx hb dX7_sheet_89 rfl (lv_at hl 0 rfl) ?_
                    refine s_get (v := .ref (ad 27)) fb7 cf hw 0 rfl 27 rfl q948 (hf.2 27 rfl) dX7_sheet_90 ?_
                    refine lv_bipush (v := 24) hx hb dX7_sheet_93 (by decide) ?_
                    refine lv_iload_n hx hb dX7_sheet_95 rfl (lv_at hl 1 rfl) ?_
                    refine lv_imul hx hb dX7_sheet_96 ?_
                    refine lv_iload hx hb dX7_sheet_97 (lv_at hl 4 rfl) ?_
                    refine lv_iadd hx hb dX7_sheet_99 ?_
                    refine lv_iconst (v := 1) hx hb dX7_sheet_100 (by decide) ?_
                    refine s_zast (j := (24 * k + i)) cf hw 4 rfl (ix24 k i) (by omega) rfl (by decide) dX7_sheet_101 (fun H locs hw => ?_)
                    have hw : WD g A s H locs [bO a 7 fs, bI g (ad 24) 4 (upd so k s_), bI g (ad 25) 4 (upd sz k (if s_ < 0 then 0 else n_)), bI g (ad 26) 96 (upd (fillF (24 * k) 0 i nu) (24 * k + i) 0), bZ g (ad 27) 96 (upd (fillF (24 * k) 1 i isn) (24 * k + i) 1)] := hw
                    refine lv_iinc (v := nI (i + 1)) (lv' := [(4, .int (nI (i + 1))), (0, .ref a), (1, .int (nI k)), (2, .int s_), (3, .int n_)]) hx hb dX7_sheet_102 hl (k := 4) rfl (nI_1 i) (by decide) rfl (fun ls hl => ?_)
                    refine lv_goto (tgt := 69) hx hb dX7_sheet_105 (by decide) ?_
                    exact ih69 (i + 1) (by omega) (by omega) _ _ _ hw (lv_sub hl [1, 2, 3, 4, 0] rfl)
              exact L69 25 0 (by omega) (by omega) _ _ _ hw (lv_sub hl [1, 2, 3, 4, 0] rfl)
          · refine lv_ldcw hx hb hown (hts _ q1337) dX7_sheet_40 ?_
            exact s_iret cf hr hlk () (by rw [show D_sheet1 so x s_ n_ = so from if_neg (by grind), show D_sheet2 sz x s_ n_ = sz from if_neg (by grind), show D_sheet3 nu x s_ n_ = nu from if_neg (by grind), show D_sheet4 isn x s_ n_ = isn from if_neg (by grind)]; exact hw) (by unfold R_sheet; rw [if_neg (by grind), if_pos (by grind)]) (Nat.le_of_ble_eq_true rfl) (Nat.le_of_ble_eq_true rfl) dX7_sheet_43 hQ
      · refine lv_iload_n hx hb dX7_sheet_23 rfl (lv_at hl 3 rfl) ?_
        refine lv_bipush (v := 24) hx hb dX7_sheet_24 (by decide) ?_
        refine lv_icmp_le (tgt := 32) hx hb dX7_sheet_26 (by decide) (fun c26 => ?_) (fun c26 => ?_)
        · refine lv_iload_n hx hb dX7_sheet_32 rfl (lv_at hl 2 rfl) ?_
          refine lv_if_lt (tgt := 44) hx hb dX7_sheet_33 (by decide) (fun c33 => ?_) (fun c33 => ?_)
          · have hok : okSheet x s_ n_ := ⟨by grind, by grind⟩
            obtain ⟨k, hk, hkx⟩ := rng_nat (m := 3) (by omega) c4.1 c4.2
            subst hkx
            have hclk : (nI k).toNatClampNeg = k := nI_clamp (by omega)
            refine lv_aload_n hx hb dX7_sheet_44 rfl (lv_at hl 0 rfl) ?_
            refine s_get (v := .ref (ad 24)) fb7 cf hw 0 rfl 24 rfl q945 (hf.2 24 rfl) dX7_sheet_45 ?_
            refine lv_iload_n hx hb dX7_sheet_48 rfl (lv_at hl 1 rfl) ?_
            refine lv_iload_n hx hb dX7_sheet_49 rfl (lv_at hl 2 rfl) ?_
            refine s_iast (j := k) cf hw 1 rfl (rfl) (by omega) rfl dX7_sheet_50 (fun H locs hw => ?_)
            have hw : WD g A s H locs [bO a 7 fs, bI g (ad 24) 4 (upd so k s_), bI g (ad 25) 4 sz, bI g (ad 26) 96 nu, bZ g (ad 27) 96 isn] := hw
            refine lv_aload_n hx hb dX7_sheet_51 rfl (lv_at hl 0 rfl) ?_
            refine s_get (v := .ref (ad 25)) fb7 cf hw 0 rfl 25 rfl q946 (hf.2 25 rfl) dX7_sheet_52 ?_
            refine lv_iload_n hx hb dX7_sheet_55 rfl (lv_at hl 1 rfl) ?_
            refine lv_iload_n hx hb dX7_sheet_56 rfl (lv_at hl 2 rfl) ?_
            refine lv_if_ge (tgt := 64) hx hb dX7_sheet_57 (by decide) (fun c57 => ?_) (fun c57 => ?_)
            · refine lv_iload_n hx hb dX7_sheet_64 rfl (lv_at hl 3 rfl) ?_
              refine lv_topr (y := if s_ < 0 then 0 else n_) (by grind) ?_
              refine s_iast (j := k) cf hw 2 rfl (rfl) (by omega) rfl dX7_sheet_65 (fun H locs hw => ?_)
              have hw : WD g A s H locs [bO a 7 fs, bI g (ad 24) 4 (upd so k s_), bI g (ad 25) 4 (upd sz k (if s_ < 0 then 0 else n_)), bI g (ad 26) 96 nu, bZ g (ad 27) 96 isn] := hw
              refine lv_iconst (v := 0) hx hb dX7_sheet_66 (by decide) ?_
              refine lv_istore (lv' := [(4, .int 0), (0, .ref a), (1, .int (nI k)), (2, .int s_), (3, .int n_)]) hx hb dX7_sheet_67 hl (by decide) rfl (fun ls hl => ?_)
              have L69 : ∀ (fu : Nat) (i : Nat), (i ≤ 24) → (24 < i + fu) → ∀ (H : Heap) (locs : List Loc) (ls : Array Slot), WD g A s H locs [bO a 7 fs, bI g (ad 24) 4 (upd so k s_), bI g (ad 25) 4 (upd sz k (if s_ < 0 then 0 else n_)), bI g (ad 26) 96 (fillF (24 * k) 0 i nu), bZ g (ad 27) 96 (fillF (24 * k) 1 i isn)] → lv_has ls 5 [(0, .ref a), (1, .int (nI k)), (2, .int s_), (3, .int n_), (4, .int (nI i))] → W p l e (rmx 2 0 0) s m args below meth c H locs 0 0 Qf (F0 m 69 ls []) := by
                intro fu
                induction fu with
                | zero => intro i hi hfu; exfalso; omega
                | succ fu ih69 =>
                  intro i hi hfu H locs ls hw hl
                  refine lv_iload hx hb dX7_sheet_69 (lv_at hl 4 rfl) ?_
                  refine lv_bipush (v := 24) hx hb dX7_sheet_71 (by decide) ?_
                  refine lv_icmp_ge (tgt := 108) hx hb dX7_sheet_73 (by decide) (fun c73 => ?_) (fun c73 => ?_)
                  · have hi2 : i = 24 := by have := nI_le_of (n := 24) (by omega) c73 (by omega); omega
                    refine lv_aload_n hx hb dX7_sheet_108 rfl (lv_at hl 0 rfl) ?_
                    refine s_get (v := .ref (ad 25)) fb7 cf hw 0 rfl 25 rfl q946 (hf.2 25 rfl) dX7_sheet_109 ?_
                    refine lv_iload_n hx hb dX7_sheet_112 rfl (lv_at hl 1 rfl) ?_
                    refine s_iald (j := k) cf hw 2 rfl (rfl) (by omega) rfl dX7_sheet_113 ?_
                    exact s_iret cf hr hlk () (by rw [show D_sheet1 so (nI k) s_ n_ = upd so k s_ from (if_pos hok).trans (by rw [hclk]), show D_sheet2 sz (nI k) s_ n_ = upd sz k (if s_ < 0 then 0 else n_) from (if_pos hok).trans (by rw [hclk]), show D_sheet3 nu (nI k) s_ n_ = fillF (24 * k) 0 i nu from (if_pos hok).trans (by rw [hclk, ← hi2]), show D_sheet4 isn (nI k) s_ n_ = fillF (24 * k) 1 i isn from (if_pos hok).trans (by rw [hclk, ← hi2])]; exact hw) (by unfold R_sheet; rw [if_neg hok.1, if_neg hok.2, upd_eq]) (Nat.le_of_ble_eq_true rfl) (Nat.le_of_ble_eq_true rfl) dX7_sheet_114 hQ
                  · have hlt : i < 24 := nI_lt_of (n := 24) (by omega) c73 (by omega)
                    refine lv_aload_n hx hb dX7_sheet_76 rfl (lv_at hl 0 rfl) ?_
                    refine s_get (v := .ref (ad 26)) fb7 cf hw 0 rfl 26 rfl q947 (hf.2 26 rfl) dX7_sheet_77 ?_
                    refine lv_bipush (v := 24) hx hb dX7_sheet_80 (by decide) ?_
                    refine lv_iload_n hx hb dX7_sheet_82 rfl (lv_at hl 1 rfl) ?_
                    refine lv_imul hx hb dX7_sheet_83 ?_
                    refine lv_iload hx hb dX7_sheet_84 (lv_at hl 4 rfl) ?_
                    refine lv_iadd hx hb dX7_sheet_86 ?_
                    refine lv_iconst (v := 0) hx hb dX7_sheet_87 (by decide) ?_
                    refine s_iast (j := (24 * k + i)) cf hw 3 rfl (ix24 k i) (by omega) rfl dX7_sheet_88 (fun H locs hw => ?_)
                    have hw : WD g A s H locs [bO a 7 fs, bI g (ad 24) 4 (upd so k s_), bI g (ad 25) 4 (upd sz k (if s_ < 0 then 0 else n_)), bI g (ad 26) 96 (upd (fillF (24 * k) 0 i nu) (24 * k + i) 0), bZ g (ad 27) 96 (fillF (24 * k) 1 i isn)] := hw
                    refine lv_aload_n hx hb dX7_sheet_89 rfl (lv_at hl 0 rfl) ?_
                    refine s_get (v := .ref (ad 27)) fb7 cf hw 0 rfl 27 rfl q948 (hf.2 27 rfl) dX7_sheet_90 ?_
                    refine lv_bipush (v := 24) hx hb dX7_sheet_93 (by decide) ?_
                    refine lv_iload_n hx hb dX7_sheet_95 rfl (lv_at hl 1 rfl) ?_
                    refine lv_imul hx hb dX7_sheet_96 ?_
                    refine lv_iload hx hb dX7_sheet_97 (lv_at hl 4 rfl) ?_
                    refine lv_iadd hx hb dX7_sheet_99 ?_
                    refine lv_iconst (v := 1) hx hb dX7_sheet_100 (by decide) ?_
                    refine s_zast (j := (24 * k + i)) cf hw 4 rfl (ix24 k i) (by omega) rfl (by decide) dX7_sheet_101 (fun H locs hw => ?_)
                    have hw : WD g A s H locs [bO a 7 fs, bI g (ad 24) 4 (upd so k s_), bI g (ad 25) 4 (upd sz k (if s_ < 0 then 0 else n_)), bI g (ad 26) 96 (upd (fillF (24 * k) 0 i nu) (24 * k + i) 0), bZ g (ad 27) 96 (upd (fillF (24 * k) 1 i isn) (24 * k + i) 1)] := hw
                    refine lv_iinc (v := nI (i + 1)) (lv' := [(4, .int (nI (i + 1))), (0, .ref a), (1, .int (nI k)), (2, .int s_), (3, .int n_)]) hx hb dX7_sheet_102 hl (k := 4) rfl (nI_1 i) (by decide) rfl (fun ls hl => ?_)
                    refine lv_goto (tgt := 69) hx hb dX7_sheet_105 (by decide) ?_
                    exact ih69 (i + 1) (by omega) (by omega) _ _ _ hw (lv_sub hl [1, 2, 3, 4, 0] rfl)
              exact L69 25 0 (by omega) (by omega) _ _ _ hw (lv_sub hl [1, 2, 3, 4, 0] rfl)
            · refine lv_iconst (v := 0) hx hb dX7_sheet_60 (by decide) ?_
              refine lv_goto (tgt := 65) hx hb dX7_sheet_61 (by decide) ?_
              refine lv_topr (y := if s_ < 0 then 0 else n_) (by grind) ?_
              refine s_iast (j := k) cf hw 2 rfl (rfl) (by omega) rfl dX7_sheet_65 (fun H locs hw => ?_)
              have hw : WD g A s H locs [bO a 7 fs, bI g (ad 24) 4 (upd so k s_), bI g (ad 25) 4 (upd sz k (if s_ < 0 then 0 else n_)), bI g (ad 26) 96 nu, bZ g (ad 27) 96 isn] := hw
              refine lv_iconst (v := 0) hx hb dX7_sheet_66 (by decide) ?_
              refine lv_istore (lv' := [(4, .int 0), (0, .ref a), (1, .int (nI k)), (2, .int s_), (3, .int n_)]) hx hb dX7_sheet_67 hl (by decide) rfl (fun ls hl => ?_)
              have L69 : ∀ (fu : Nat) (i : Nat), (i ≤ 24) → (24 < i + fu) → ∀ (H : Heap) (locs : List Loc) (ls : Array Slot), WD g A s H locs [bO a 7 fs, bI g (ad 24) 4 (upd so k s_), bI g (ad 25) 4 (upd sz k (if s_ < 0 then 0 else n_)), bI g (ad 26) 96 (fillF (24 * k) 0 i nu), bZ g (ad 27) 96 (fillF (24 * k) 1 i isn)] → lv_has ls 5 [(0, .ref a), (1, .int (nI k)), (2, .int s_), (3, .int n_), (4, .int (nI i))] → W p l e (rmx 2 0 0) s m args below meth c H locs 0 0 Qf (F0 m 69 ls []) := by
                intro fu
                induction fu with
                | zero => intro i hi hfu; exfalso; omega
                | succ fu ih69 =>
                  intro i hi hfu H locs ls hw hl
                  refine lv_iload hx hb dX7_sheet_69 (lv_at hl 4 rfl) ?_
                  refine lv_bipush (v := 24) hx hb dX7_sheet_71 (by decide) ?_
                  refine lv_icmp_ge (tgt := 108) hx hb dX7_sheet_73 (by decide) (fun c73 => ?_) (fun c73 => ?_)
                  · have hi2 : i = 24 := by have := nI_le_of (n := 24) (by omega) c73 (by omega); omega
                    refine lv_aload_n hx hb dX7_sheet_108 rfl (lv_at hl 0 rfl) ?_
                    refine s_get (v := .ref (ad 25)) fb7 cf hw 0 rfl 25 rfl q946 (hf.2 25 rfl) dX7_sheet_109 ?_
                    refine lv_iload_n hx hb dX7_sheet_112 rfl (lv_at hl 1 rfl) ?_
                    refine s_iald (j := k) cf hw 2 rfl (rfl) (by omega) rfl dX7_sheet_113 ?_
                    exact s_iret cf hr hlk () (by rw [show D_sheet1 so (nI k) s_ n_ = upd so k s_ from (if_pos hok).trans (by rw [hclk]), show D_sheet2 sz (nI k) s_ n_ = upd sz k (if s_ < 0 then 0 else n_) from (if_pos hok).trans (by rw [hclk]), show D_sheet3 nu (nI k) s_ n_ = fillF (24 * k) 0 i nu from (if_pos hok).trans (by rw [hclk, ← hi2]), show D_sheet4 isn (nI k) s_ n_ = fillF (24 * k) 1 i isn from (if_pos hok).trans (by rw [hclk, ← hi2])]; exact hw) (by unfold R_sheet; rw [if_neg hok.1, if_neg hok.2, upd_eq]) (Nat.le_of_ble_eq_true rfl) (Nat.le_of_ble_eq_true rfl) dX7_sheet_114 hQ
                  · have hlt : i < 24 := nI_lt_of (n := 24) (by omega) c73 (by omega)
                    refine lv_aload_n hx hb dX7_sheet_76 rfl (lv_at hl 0 rfl) ?_
                    refine s_get (v := .ref (ad 26)) fb7 cf hw 0 rfl 26 rfl q947 (hf.2 26 rfl) dX7_sheet_77 ?_
                    refine lv_bipush (v := 24) hx hb dX7_sheet_80 (by decide) ?_
                    refine lv_iload_n hx hb dX7_sheet_82 rfl (lv_at hl 1 rfl) ?_
                    refine lv_imul hx hb dX7_sheet_83 ?_
                    refine lv_iload hx hb dX7_sheet_84 (lv_at hl 4 rfl) ?_
                    refine lv_iadd hx hb dX7_sheet_86 ?_
                    refine lv_iconst (v := 0) hx hb dX7_sheet_87 (by decide) ?_
                    refine s_iast (j := (24 * k + i)) cf hw 3 rfl (ix24 k i) (by omega) rfl dX7_sheet_88 (fun H locs hw => ?_)
                    have hw : WD g A s H locs [bO a 7 fs, bI g (ad 24) 4 (upd so k s_), bI g (ad 25) 4 (upd sz k (if s_ < 0 then 0 else n_)), bI g (ad 26) 96 (upd (fillF (24 * k) 0 i nu) (24 * k + i) 0), bZ g (ad 27) 96 (fillF (24 * k) 1 i isn)] := hw
                    refine lv_aload_n hx hb dX7_sheet_89 rfl (lv_at hl 0 rfl) ?_
                    refine s_get (v := .ref (ad 27)) fb7 cf hw 0 rfl 27 rfl q948 (hf.2 27 rfl) dX7_sheet_90 ?_
                    refine lv_bipush (v := 24) hx hb dX7_sheet_93 (by decide) ?_
                    refine lv_iload_n hx hb dX7_sheet_95 rfl (lv_at hl 1 rfl) ?_
                    refine lv_imul hx hb dX7_sheet_96 ?_
                    refine lv_iload hx hb dX7_sheet_97 (lv_at hl 4 rfl) ?_
                    refine lv_iadd hx hb dX7_sheet_99 ?_
                    refine lv_iconst (v := 1) hx hb dX7_sheet_100 (by decide) ?_
                    refine s_zast (j := (24 * k + i)) cf hw 4 rfl (ix24 k i) (by omega) rfl (by decide) dX7_sheet_101 (fun H locs hw => ?_)
                    have hw : WD g A s H locs [bO a 7 fs, bI g (ad 24) 4 (upd so k s_), bI g (ad 25) 4 (upd sz k (if s_ < 0 then 0 else n_)), bI g (ad 26) 96 (upd (fillF (24 * k) 0 i nu) (24 * k + i) 0), bZ g (ad 27) 96 (upd (fillF (24 * k) 1 i isn) (24 * k + i) 1)] := hw
                    refine lv_iinc (v := nI (i + 1)) (lv' := [(4, .int (nI (i + 1))), (0, .ref a), (1, .int (nI k)), (2, .int s_), (3, .int n_)]) hx hb dX7_sheet_102 hl (k := 4) rfl (nI_1 i) (by decide) rfl (fun ls hl => ?_)
                    refine lv_goto (tgt := 69) hx hb dX7_sheet_105 (by decide) ?_
                    exact ih69 (i + 1) (by omega) (by omega) _ _ _ hw (lv_sub hl [1, 2, 3, 4, 0] rfl)
              exact L69 25 0 (by omega) (by omega) _ _ _ hw (lv_sub hl [1, 2, 3, 4, 0] rfl)
          · refine lv_iload_n hx hb dX7_sheet_36 rfl (lv_at hl 3 rfl) ?_
            refine lv_if_ge (tgt := 44) hx hb dX7_sheet_37 (by decide) (fun c37 => ?_) (fun c37 => ?_)
            · have hok : okSheet x s_ n_ := ⟨by grind, by grind⟩
              obtain ⟨k, hk, hkx⟩ := rng_nat (m := 3) (by omega) c4.1 c4.2
              subst hkx
              have hclk : (nI k).toNatClampNeg = k := nI_clamp (by omega)
              refine lv_aload_n hx hb dX7_sheet_44 rfl (lv_at hl 0 rfl) ?_
              refine s_get (v := .ref (ad 24)) fb7 cf hw 0 rfl 24 rfl q945 (hf.2 24 rfl) dX7_sheet_45 ?_
              refine lv_iload_n hx hb dX7_sheet_48 rfl (lv_at hl 1 rfl) ?_
              refine lv_iload_n hx hb dX7_sheet_49 rfl (lv_at hl 2 rfl) ?_
              refine s_iast (j := k) cf hw 1 rfl (rfl) (by omega) rfl dX7_sheet_50 (fun H locs hw => ?_)
              have hw : WD g A s H locs [bO a 7 fs, bI g (ad 24) 4 (upd so k s_), bI g (ad 25) 4 sz, bI g (ad 26) 96 nu, bZ g (ad 27) 96 isn] := hw
              refine lv_aload_n hx hb dX7_sheet_51 rfl (lv_at hl 0 rfl) ?_
              refine s_get (v := .ref (ad 25)) fb7 cf hw 0 rfl 25 rfl q946 (hf.2 25 rfl) dX7_sheet_52 ?_
              refine lv_iload_n hx hb dX7_sheet_55 rfl (lv_at hl 1 rfl) ?_
              refine lv_iload_n hx hb dX7_sheet_56 rfl (lv_at hl 2 rfl) ?_
              refine lv_if_ge (tgt := 64) hx hb dX7_sheet_57 (by decide) (fun c57 => ?_) (fun c57 => ?_)
              · refine lv_iload_n hx hb dX7_sheet_64 rfl (lv_at hl 3 rfl) ?_
                refine lv_topr (y := if s_ < 0 then 0 else n_) (by grind) ?_
                refine s_iast (j := k) cf hw 2 rfl (rfl) (by omega) rfl dX7_sheet_65 (fun H locs hw => ?_)
                have hw : WD g A s H locs [bO a 7 fs, bI g (ad 24) 4 (upd so k s_), bI g (ad 25) 4 (upd sz k (if s_ < 0 then 0 else n_)), bI g (ad 26) 96 nu, bZ g (ad 27) 96 isn] := hw
                refine lv_iconst (v := 0) hx hb dX7_sheet_66 (by decide) ?_
                refine lv_istore (lv' := [(4, .int 0), (0, .ref a), (1, .int (nI k)), (2, .int s_), (3, .int n_)]) hx hb dX7_sheet_67 hl (by decide) rfl (fun ls hl => ?_)
                have L69 : ∀ (fu : Nat) (i : Nat), (i ≤ 24) → (24 < i + fu) → ∀ (H : Heap) (locs : List Loc) (ls : Array Slot), WD g A s H locs [bO a 7 fs, bI g (ad 24) 4 (upd so k s_), bI g (ad 25) 4 (upd sz k (if s_ < 0 then 0 else n_)), bI g (ad 26) 96 (fillF (24 * k) 0 i nu), bZ g (ad 27) 96 (fillF (24 * k) 1 i isn)] → lv_has ls 5 [(0, .ref a), (1, .int (nI k)), (2, .int s_), (3, .int n_), (4, .int (nI i))] → W p l e (rmx 2 0 0) s m args below meth c H locs 0 0 Qf (F0 m 69 ls []) := by
                  intro fu
                  induction fu with
                  | zero => intro i hi hfu; exfalso; omega
                  | succ fu ih69 =>
                    intro i hi hfu H locs ls hw hl
                    refine lv_iload hx hb dX7_sheet_69 (lv_at hl 4 rfl) ?_
                    refine lv_bipush (v := 24) hx hb dX7_sheet_71 (by decide) ?_
                    refine lv_icmp_ge (tgt := 108) hx hb dX7_sheet_73 (by decide) (fun c73 => ?_) (fun c73 => ?_)
                    · have hi2 : i = 24 := by have := nI_le_of (n := 24) (by omega) c73 (by omega); omega
                      refine lv_aload_n hx hb dX7_sheet_108 rfl (lv_at hl 0 rfl) ?_
                      refine s_get (v := .ref (ad 25)) fb7 cf hw 0 rfl 25 rfl q946 (hf.2 25 rfl) dX7_sheet_109 ?_
                      refine lv_iload_n hx hb dX7_sheet_112 rfl (lv_at hl 1 rfl) ?_
                      refine s_iald (j := k) cf hw 2 rfl (rfl) (by omega) rfl dX7_sheet_113 ?_
                      exact s_iret cf hr hlk () (by rw [show D_sheet1 so (nI k) s_ n_ = upd so k s_ from (if_pos hok).trans (by rw [hclk]), show D_sheet2 sz (nI k) s_ n_ = upd sz k (if s_ < 0 then 0 else n_) from (if_pos hok).trans (by rw [hclk]), show D_sheet3 nu (nI k) s_ n_ = fillF (24 * k) 0 i nu from (if_pos hok).trans (by rw [hclk, ← hi2]), show D_sheet4 isn (nI k) s_ n_ = fillF (24 * k) 1 i isn from (if_pos hok).trans (by rw [hclk, ← hi2])]; exact hw) (by unfold R_sheet; rw [if_neg hok.1, if_neg hok.2, upd_eq]) (Nat.le_of_ble_eq_true rfl) (Nat.le_of_ble_eq_true rfl) dX7_sheet_114 hQ
                    · have hlt : i < 24 := nI_lt_of (n := 24) (by omega) c73 (by omega)
                      refine lv_aload_n hx hb dX7_sheet_76 rfl (lv_at hl 0 rfl) ?_
                      refine s_get (v := .ref (ad 26)) fb7 cf hw 0 rfl 26 rfl q947 (hf.2 26 rfl) dX7_sheet_77 ?_
                      refine lv_bipush (v := 24) hx hb dX7_sheet_80 (by decide) ?_
                      refine lv_iload_n hx hb dX7_sheet_82 rfl (lv_at hl 1 rfl) ?_
                      refine lv_imul hx hb dX7_sheet_83 ?_
                      refine lv_iload hx hb dX7_sheet_84 (lv_at hl 4 rfl) ?_
                      refine lv_iadd hx hb dX7_sheet_86 ?_
                      refine lv_iconst (v := 0) hx hb dX7_sheet_87 (by decide) ?_
                      refine s_iast (j := (24 * k + i)) cf hw 3 rfl (ix24 k i) (by omega) rfl dX7_sheet_88 (fun H locs hw => ?_)
                      have hw : WD g A s H locs [bO a 7 fs, bI g (ad 24) 4 (upd so k s_), bI g (ad 25) 4 (upd sz k (if s_ < 0 then 0 else n_)), bI g (ad 26) 96 (upd (fillF (24 * k) 0 i nu) (24 * k + i) 0), bZ g (ad 27) 96 (fillF (24 * k) 1 i isn)] := hw
                      refine lv_aload_n hx hb dX7_sheet_89 rfl (lv_at hl 0 rfl) ?_
                      refine s_get (v := .ref (ad 27)) fb7 cf hw 0 rfl 27 rfl q948 (hf.2 27 rfl) dX7_sheet_90 ?_
                      refine lv_bipush (v := 24) hx hb dX7_sheet_93 (by decide) ?_
                      refine lv_iload_n hx hb dX7_sheet_95 rfl (lv_at hl 1 rfl) ?_
                      refine lv_imul hx hb dX7_sheet_96 ?_
                      refine lv_iload hx hb dX7_sheet_97 (lv_at hl 4 rfl) ?_
                      refine lv_iadd hx hb dX7_sheet_99 ?_
                      refine lv_iconst (v := 1) hx hb dX7_sheet_100 (by decide) ?_
                      refine s_zast (j := (24 * k + i)) cf hw 4 rfl (ix24 k i) (by omega) rfl (by decide) dX7_sheet_101 (fun H locs hw => ?_)
                      have hw : WD g A s H locs [bO a 7 fs, bI g (ad 24) 4 (upd so k s_), bI g (ad 25) 4 (upd sz k (if s_ < 0 then 0 else n_)), bI g (ad 26) 96 (upd (fillF (24 * k) 0 i nu) (24 * k + i) 0), bZ g (ad 27) 96 (upd (fillF (24 * k) 1 i isn) (24 * k + i) 1)] := hw
                      refine lv_iinc (v := nI (i + 1)) (lv' := [(4, .int (nI (i + 1))), (0, .ref a), (1, .int (nI k)), (2, .int s_), (3, .int n_)]) hx hb dX7_sheet_102 hl (k := 4) rfl (nI_1 i) (by decide) rfl (fun ls hl => ?_)
                      refine lv_goto (tgt := 69) hx hb dX7_sheet_105 (by decide) ?_
                      exact ih69 (i + 1) (by omega) (by omega) _ _ _ hw (lv_sub hl [1, 2, 3, 4, 0] rfl)
                exact L69 25 0 (by omega) (by omega) _ _ _ hw (lv_sub hl [1, 2, 3, 4, 0] rfl)
              · refine lv_iconst (v := 0) hx hb dX7_sheet_60 (by decide) ?_
                refine lv_goto (tgt := 65) hx hb dX7_sheet_61 (by decide) ?_
                refine lv_topr (y := if s_ < 0 then 0 else n_) (by grind) ?_
                refine s_iast (j := k) cf hw 2 rfl (rfl) (by omega) rfl dX7_sheet_65 (fun H locs hw => ?_)
                have hw : WD g A s H locs [bO a 7 fs, bI g (ad 24) 4 (upd so k s_), bI g (ad 25) 4 (upd sz k (if s_ < 0 then 0 else n_)), bI g (ad 26) 96 nu, bZ g (ad 27) 96 isn] := hw
                refine lv_iconst (v := 0) hx hb dX7_sheet_66 (by decide) ?_
                refine lv_istore (lv' := [(4, .int 0), (0, .ref a), (1, .int (nI k)), (2, .int s_), (3, .int n_)]) hx hb dX7_sheet_67 hl (by decide) rfl (fun ls hl => ?_)
                have L69 : ∀ (fu : Nat) (i : Nat), (i ≤ 24) → (24 < i + fu) → ∀ (H : Heap) (locs : List Loc) (ls : Array Slot), WD g A s H locs [bO a 7 fs, bI g (ad 24) 4 (upd so k s_), bI g (ad 25) 4 (upd sz k (if s_ < 0 then 0 else n_)), bI g (ad 26) 96 (fillF (24 * k) 0 i nu), bZ g (ad 27) 96 (fillF (24 * k) 1 i isn)] → lv_has ls 5 [(0, .ref a), (1, .int (nI k)), (2, .int s_), (3, .int n_), (4, .int (nI i))] → W p l e (rmx 2 0 0) s m args below meth c H locs 0 0 Qf (F0 m 69 ls []) := by
                  intro fu
                  induction fu with
                  | zero => intro i hi hfu; exfalso; omega
                  | succ fu ih69 =>
                    intro i hi hfu H locs ls hw hl
                    refine lv_iload hx hb dX7_sheet_69 (lv_at hl 4 rfl) ?_
                    refine lv_bipush (v := 24) hx hb dX7_sheet_71 (by decide) ?_
                    refine lv_icmp_ge (tgt := 108) hx hb dX7_sheet_73 (by decide) (fun c73 => ?_) (fun c73 => ?_)
                    · have hi2 : i = 24 := by have := nI_le_of (n := 24) (by omega) c73 (by omega); omega
                      refine lv_aload_n hx hb dX7_sheet_108 rfl (lv_at hl 0 rfl) ?_
                      refine s_get (v := .ref (ad 25)) fb7 cf hw 0 rfl 25 rfl q946 (hf.2 25 rfl) dX7_sheet_109 ?_
                      refine lv_iload_n hx hb dX7_sheet_112 rfl (lv_at hl 1 rfl) ?_
                      refine s_iald (j := k) cf hw 2 rfl (rfl) (by omega) rfl dX7_sheet_113 ?_
                      exact s_iret cf hr hlk () (by rw [show D_sheet1 so (nI k) s_ n_ = upd so k s_ from (if_pos hok).trans (by rw [hclk]), show D_sheet2 sz (nI k) s_ n_ = upd sz k (if s_ < 0 then 0 else n_) from (if_pos hok).trans (by rw [hclk]), show D_sheet3 nu (nI k) s_ n_ = fillF (24 * k) 0 i nu from (if_pos hok).trans (by rw [hclk, ← hi2]), show D_sheet4 isn (nI k) s_ n_ = fillF (24 * k) 1 i isn from (if_pos hok).trans (by rw [hclk, ← hi2])]; exact hw) (by unfold R_sheet; rw [if_neg hok.1, if_neg hok.2, upd_eq]) (Nat.le_of_ble_eq_true rfl) (Nat.le_of_ble_eq_true rfl) dX7_sheet_114 hQ
                    · have hlt : i < 24 := nI_lt_of (n := 24) (by omega) c73 (by omega)
                      refine lv_aload_n hx hb dX7_sheet_76 rfl (lv_at hl 0 rfl) ?_
                      refine s_get (v := .ref (ad 26)) fb7 cf hw 0 rfl 26 rfl q947 (hf.2 26 rfl) dX7_sheet_77 ?_
                      refine lv_bipush (v := 24) hx hb dX7_sheet_80 (by decide) ?_
                      refine lv_iload_n hx hb dX7_sheet_82 rfl (lv_at hl 1 rfl) ?_
                      refine lv_imul hx hb dX7_sheet_83 ?_
                      refine lv_iload hx hb dX7_sheet_84 (lv_at hl 4 rfl) ?_
                      refine lv_iadd hx hb dX7_sheet_86 ?_
                      refine lv_iconst (v := 0) hx hb dX7_sheet_87 (by decide) ?_
                      refine s_iast (j := (24 * k + i)) cf hw 3 rfl (ix24 k i) (by omega) rfl dX7_sheet_88 (fun H locs hw => ?_)
                      have hw : WD g A s H locs [bO a 7 fs, bI g (ad 24) 4 (upd so k s_), bI g (ad 25) 4 (upd sz k (if s_ < 0 then 0 else n_)), bI g (ad 26) 96 (upd (fillF (24 * k) 0 i nu) (24 * k + i) 0), bZ g (ad 27) 96 (fillF (24 * k) 1 i isn)] := hw
                      refine lv_aload_n hx hb dX7_sheet_89 rfl (lv_at hl 0 rfl) ?_
                      refine s_get (v := .ref (ad 27)) fb7 cf hw 0 rfl 27 rfl q948 (hf.2 27 rfl) dX7_sheet_90 ?_
                      refine lv_bipush (v := 24) hx hb dX7_sheet_93 (by decide) ?_
                      refine lv_iload_n hx hb dX7_sheet_95 rfl (lv_at hl 1 rfl) ?_
                      refine lv_imul hx hb dX7_sheet_96 ?_
                      refine lv_iload hx hb dX7_sheet_97 (lv_at hl 4 rfl) ?_
                      refine lv_iadd hx hb dX7_sheet_99 ?_
                      refine lv_iconst (v := 1) hx hb dX7_sheet_100 (by decide) ?_
                      refine s_zast (j := (24 * k + i)) cf hw 4 rfl (ix24 k i) (by omega) rfl (by decide) dX7_sheet_101 (fun H locs hw => ?_)
                      have hw : WD g A s H locs [bO a 7 fs, bI g (ad 24) 4 (upd so k s_), bI g (ad 25) 4 (upd sz k (if s_ < 0 then 0 else n_)), bI g (ad 26) 96 (upd (fillF (24 * k) 0 i nu) (24 * k + i) 0), bZ g (ad 27) 96 (upd (fillF (24 * k) 1 i isn) (24 * k + i) 1)] := hw
                      refine lv_iinc (v := nI (i + 1)) (lv' := [(4, .int (nI (i + 1))), (0, .ref a), (1, .int (nI k)), (2, .int s_), (3, .int n_)]) hx hb dX7_sheet_102 hl (k := 4) rfl (nI_1 i) (by decide) rfl (fun ls hl => ?_)
                      refine lv_goto (tgt := 69) hx hb dX7_sheet_105 (by decide) ?_
                      exact ih69 (i + 1) (by omega) (by omega) _ _ _ hw (lv_sub hl [1, 2, 3, 4, 0] rfl)
                exact L69 25 0 (by omega) (by omega) _ _ _ hw (lv_sub hl [1, 2, 3, 4, 0] rfl)
            · refine lv_ldcw hx hb hown (hts _ q1337) dX7_sheet_40 ?_
              exact s_iret cf hr hlk () (by rw [show D_sheet1 so x s_ n_ = so from if_neg (by grind), show D_sheet2 sz x s_ n_ = sz from if_neg (by grind), show D_sheet3 nu x s_ n_ = nu from if_neg (by grind), show D_sheet4 isn x s_ n_ = isn from if_neg (by grind)]; exact hw) (by unfold R_sheet; rw [if_neg (by grind), if_pos (by grind)]) (Nat.le_of_ble_eq_true rfl) (Nat.le_of_ble_eq_true rfl) dX7_sheet_43 hQ
        · refine lv_ldc hx hb hown (hts _ q1049) dX7_sheet_29 ?_
          exact s_iret cf hr hlk () (by rw [show D_sheet1 so x s_ n_ = so from if_neg (by grind), show D_sheet2 sz x s_ n_ = sz from if_neg (by grind), show D_sheet3 nu x s_ n_ = nu from if_neg (by grind), show D_sheet4 isn x s_ n_ = isn from if_neg (by grind)]; exact hw) (by unfold R_sheet; rw [if_pos (by grind)]) (Nat.le_of_ble_eq_true rfl) (Nat.le_of_ble_eq_true rfl) dX7_sheet_31 hQ
set_option maxRecDepth 100000 in
set_option maxHeartbeats 4000000 in
theorem m_mark {l : Launch} {g : GG} {a : Nat} {ad : Nat → Nat} {fs : List Value} (hf : MF ad fs) {so sz nu isn : DD} (hsz : SzOK sz) (x p_ v : Int32) : Ct l g yX7_mark cX7_mark 4 (Option.some Jvm.ClassFile.FieldType.int) 2 0 0 [.ref a, .int x, .int p_, .int v] [bO a 7 fs, bI g (ad 24) 4 so, bI g (ad 25) 4 sz, bI g (ad 26) 96 nu, bZ g (ad 27) 96 isn] (QI g (fun r (_ : Unit) => r = R_mark so sz x p_ v) (fun _ => [bO a 7 fs, bI g (ad 24) 4 so, bI g (ad 25) 4 sz, bI g (ad 26) 96 (D_mark2 so sz nu x p_ v), bZ g (ad 27) 96 (D_mark1 so sz isn x p_ v)])) := by
  refine Ct.of (by decide) rfl ?_
  intro p e s m args below meth c A H locs ls Qf cf hr hlk hnm hQ hw hl
  have hx := cf.1
  have hb := cf.2.1
  have hml := cf.2.2.1
  have hown := cf.2.2.2.1
  have hts := cf.2.2.2.2
  have hw : WD g A s H locs [bO a 7 fs, bI g (ad 24) 4 so, bI g (ad 25) 4 sz, bI g (ad 26) 96 nu, bZ g (ad 27) 96 isn] := hw
  have hl : lv_has ls 4 [(0, .ref a), (1, .int x), (2, .int p_), (3, .int v)] := hl
  refine lv_iload_n hx hb dX7_mark_0 rfl (lv_at hl 1 rfl) ?_
  refine s_calli (runS cf (m_isSheet x) hw [] (by decide) rfl km_X7_isSheet ks_X7_isSheet q1243 rfl rfl hl.1 rfl dX7_mark_1) hw [] (by decide) rfl (fun _ => rfl) (fun r_3 u_1 H locs hp_2 hw => ?_)
  have hw : WD g A s H locs [bO a 7 fs, bI g (ad 24) 4 so, bI g (ad 25) 4 sz, bI g (ad 26) 96 nu, bZ g (ad 27) 96 isn] := hw
  subst hp_2
  refine lv_if_ne (tgt := 10) hx hb dX7_mark_4 (by decide) (fun c4 => ?_) (fun c4 => ?_)
  · have c4 := b01_n c4
    obtain ⟨k, hk, hkx⟩ := rng_nat (m := 3) (by omega) c4.1 c4.2
    subst hkx
    have hclk : (nI k).toNatClampNeg = k := nI_clamp (by omega)
    refine lv_aload_n hx hb dX7_mark_10 rfl (lv_at hl 0 rfl) ?_
    refine s_get (v := .ref (ad 24)) fb7 cf hw 0 rfl 24 rfl q945 (hf.2 24 rfl) dX7_mark_11 ?_
    refine lv_iload_n hx hb dX7_mark_14 rfl (lv_at hl 1 rfl) ?_
    refine s_iald (j := k) cf hw 1 rfl (rfl) (by omega) rfl dX7_mark_15 ?_
    refine lv_if_ge (tgt := 22) hx hb dX7_mark_16 (by decide) (fun c16 => ?_) (fun c16 => ?_)
    · refine lv_iload_n hx hb dX7_mark_22 rfl (lv_at hl 2 rfl) ?_
      refine lv_i2l (v := (p_ : Int32).toInt64) hx hb dX7_mark_23 rfl ?_
      refine lv_lconst (v := (0 : Int32).toInt64) hx hb dX7_mark_24 (by decide) ?_
      refine lv_aload_n hx hb dX7_mark_25 rfl (lv_at hl 0 rfl) ?_
      refine s_get (v := .ref (ad 25)) fb7 cf hw 0 rfl 25 rfl q946 (hf.2 25 rfl) dX7_mark_26 ?_
      refine lv_iload_n hx hb dX7_mark_29 rfl (lv_at hl 1 rfl) ?_
      refine s_iald (j := k) cf hw 2 rfl (rfl) (by omega) rfl dX7_mark_30 ?_
      refine lv_iconst (v := 1) hx hb dX7_mark_31 (by decide) ?_
      refine lv_isub hx hb dX7_mark_32 ?_
      refine lv_i2l (v := ((sz k) - 1 : Int32).toInt64) hx hb dX7_mark_33 rfl ?_
      refine s_calli (runS cf (m_in (p_ : Int32) (0 : Int32) ((sz k) - 1 : Int32)) hw [] (by decide) rfl km_X7_in ks_X7_in q1045 rfl rfl hl.1 rfl dX7_mark_34) hw [] (by decide) rfl (fun _ => rfl) (fun r_6 u_4 H locs hp_5 hw => ?_)
      have hw : WD g A s H locs [bO a 7 fs, bI g (ad 24) 4 so, bI g (ad 25) 4 sz, bI g (ad 26) 96 nu, bZ g (ad 27) 96 isn] := hw
      subst hp_5
      refine lv_if_ne (tgt := 44) hx hb dX7_mark_37 (by decide) (fun c37 => ?_) (fun c37 => ?_)
      · have c37 := b01_n c37
        refine lv_aload_n hx hb dX7_mark_44 rfl (lv_at hl 0 rfl) ?_
        refine s_get (v := .ref (ad 24)) fb7 cf hw 0 rfl 24 rfl q945 (hf.2 24 rfl) dX7_mark_45 ?_
        refine lv_iload_n hx hb dX7_mark_48 rfl (lv_at hl 1 rfl) ?_
        refine s_iald (j := k) cf hw 1 rfl (rfl) (by omega) rfl dX7_mark_49 ?_
        refine lv_if_ne (tgt := 62) hx hb dX7_mark_50 (by decide) (fun c50 => ?_) (fun c50 => ?_)
        · refine lv_aload_n hx hb dX7_mark_62 rfl (lv_at hl 0 rfl) ?_
          refine s_get (v := .ref (ad 24)) fb7 cf hw 0 rfl 24 rfl q945 (hf.2 24 rfl) dX7_mark_63 ?_
          refine lv_iload_n hx hb dX7_mark_66 rfl (lv_at hl 1 rfl) ?_
          refine s_iald (j := k) cf hw 1 rfl (rfl) (by omega) rfl dX7_mark_67 ?_
          refine lv_iconst (v := 1) hx hb dX7_mark_68 (by decide) ?_
          refine lv_icmp_ne (tgt := 95) hx hb dX7_mark_69 (by decide) (fun c69 => ?_) (fun c69 => ?_)
          · have hok : okMark so sz (nI k) p_ v := ⟨c4, by rw [hclk]; grind, by rw [hclk]; exact c37, by rw [hclk]; grind, by rw [hclk]; grind⟩
            obtain ⟨m, hm24, hm⟩ := hsz k (by omega)
            obtain ⟨pn, hpn, hpx, -⟩ := below_nat hm (by omega) c37
            subst hpx
            refine lv_aload_n hx hb dX7_mark_95 rfl (lv_at hl 0 rfl) ?_
            refine s_get (v := .ref (ad 27)) fb7 cf hw 0 rfl 27 rfl q948 (hf.2 27 rfl) dX7_mark_96 ?_
            refine lv_bipush (v := 24) hx hb dX7_mark_99 (by decide) ?_
            refine lv_iload_n hx hb dX7_mark_101 rfl (lv_at hl 1 rfl) ?_
            refine lv_imul hx hb dX7_mark_102 ?_
            refine lv_iload_n hx hb dX7_mark_103 rfl (lv_at hl 2 rfl) ?_
            refine lv_iadd hx hb dX7_mark_104 ?_
            refine lv_iload_n hx hb dX7_mark_105 rfl (lv_at hl 3 rfl) ?_
            refine lv_ldc hx hb hown (hts _ q1198) dX7_mark_106 ?_
            refine lv_icmp_eq (tgt := 115) hx hb dX7_mark_108 (by decide) (fun c108 => ?_) (fun c108 => ?_)
            · refine lv_iconst (v := 0) hx hb dX7_mark_115 (by decide) ?_
              refine lv_topr (y := if v = -1000000005 then 0 else 1) (by grind) ?_
              refine s_zast (j := (24 * k + pn)) cf hw 4 rfl (ix24 k pn) (by omega) rfl (by split <;> rfl) dX7_mark_116 (fun H locs hw => ?_)
              have hw : WD g A s H locs [bO a 7 fs, bI g (ad 24) 4 so, bI g (ad 25) 4 sz, bI g (ad 26) 96 nu, bZ g (ad 27) 96 (upd isn (24 * k + pn) (if v = -1000000005 then 0 else 1))] := hw
              refine lv_aload_n hx hb dX7_mark_117 rfl (lv_at hl 0 rfl) ?_
              refine s_get (v := .ref (ad 26)) fb7 cf hw 0 rfl 26 rfl q947 (hf.2 26 rfl) dX7_mark_118 ?_
              refine lv_bipush (v := 24) hx hb dX7_mark_121 (by decide) ?_
              refine lv_iload_n hx hb dX7_mark_123 rfl (lv_at hl 1 rfl) ?_
              refine lv_imul hx hb dX7_mark_124 ?_
              refine lv_iload_n hx hb dX7_mark_125 rfl (lv_at hl 2 rfl) ?_
              refine lv_iadd hx hb dX7_mark_126 ?_
              refine lv_iload_n hx hb dX7_mark_127 rfl (lv_at hl 3 rfl) ?_
              refine lv_ldc hx hb hown (hts _ q1198) dX7_mark_128 ?_
              refine lv_icmp_ne (tgt := 137) hx hb dX7_mark_130 (by decide) (fun c130 => ?_) (fun c130 => ?_)
              · refine lv_aload_n hx hb dX7_mark_137 rfl (lv_at hl 0 rfl) ?_
                refine s_get (v := .ref (ad 24)) fb7 cf hw 0 rfl 24 rfl q945 (hf.2 24 rfl) dX7_mark_138 ?_
                refine lv_iload_n hx hb dX7_mark_141 rfl (lv_at hl 1 rfl) ?_
                refine s_iald (j := k) cf hw 1 rfl (rfl) (by omega) rfl dX7_mark_142 ?_
                refine lv_if_ne (tgt := 151) hx hb dX7_mark_143 (by decide) (fun c143 => ?_) (fun c143 => ?_)
                · refine lv_iload_n hx hb dX7_mark_151 rfl (lv_at hl 3 rfl) ?_
                  refine lv_topr (y := markV (so k) v) (by unfold markV; grind) ?_
                  refine s_iast (j := (24 * k + pn)) cf hw 3 rfl (ix24 k pn) (by omega) rfl dX7_mark_152 (fun H locs hw => ?_)
                  have hw : WD g A s H locs [bO a 7 fs, bI g (ad 24) 4 so, bI g (ad 25) 4 sz, bI g (ad 26) 96 (upd nu (24 * k + pn) (markV (so k) v)), bZ g (ad 27) 96 (upd isn (24 * k + pn) (if v = -1000000005 then 0 else 1))] := hw
                  refine lv_iconst (v := 1) hx hb dX7_mark_153 (by decide) ?_
                  exact s_iret cf hr hlk () (by rw [show D_mark1 so sz isn (nI k) (nI pn) v = upd isn (24 * k + pn) (if v = -1000000005 then 0 else 1) from (if_pos hok).trans (by rw [hclk, nI_clamp (by omega)]), show D_mark2 so sz nu (nI k) (nI pn) v = upd nu (24 * k + pn) (markV (so k) v) from (if_pos hok).trans (by rw [hclk, nI_clamp (by omega)])]; exact hw) (by unfold R_mark; rw [if_pos hok.1, hclk, if_neg (Int32.not_lt.mpr c16), if_pos (by have := hok.2.2.1; rw [hclk] at this; exact this), if_neg (by have := hok.2.2.2.1; rw [hclk] at this; exact this), if_neg (by have := hok.2.2.2.2; rw [hclk] at this; exact this)]) (Nat.le_of_ble_eq_true rfl) (Nat.le_of_ble_eq_true rfl) dX7_mark_154 hQ
                · refine lv_iload_n hx hb dX7_mark_146 rfl (lv_at hl 3 rfl) ?_
                  refine lv_i2s (v := (v : Int32).toInt16.toInt32) hx hb dX7_mark_147 rfl ?_
                  refine lv_goto (tgt := 152) hx hb dX7_mark_148 (by decide) ?_
                  refine lv_topr (y := markV (so k) v) (by unfold markV; grind) ?_
                  refine s_iast (j := (24 * k + pn)) cf hw 3 rfl (ix24 k pn) (by omega) rfl dX7_mark_152 (fun H locs hw => ?_)
                  have hw : WD g A s H locs [bO a 7 fs, bI g (ad 24) 4 so, bI g (ad 25) 4 sz, bI g (ad 26) 96 (upd nu (24 * k + pn) (markV (so k) v)), bZ g (ad 27) 96 (upd isn (24 * k + pn) (if v = -1000000005 then 0 else 1))] := hw
                  refine lv_iconst (v := 1) hx hb dX7_mark_153 (by decide) ?_
                  exact s_iret cf hr hlk () (by rw [show D_mark1 so sz isn (nI k) (nI pn) v = upd isn (24 * k + pn) (if v = -1000000005 then 0 else 1) from (if_pos hok).trans (by rw [hclk, nI_clamp (by omega)]), show D_mark2 so sz nu (nI k) (nI pn) v = upd nu (24 * k + pn) (markV (so k) v) from (if_pos hok).trans (by rw [hclk, nI_clamp (by omega)])]; exact hw) (by unfold R_mark; rw [if_pos hok.1, hclk, if_neg (Int32.not_lt.mpr c16), if_pos (by have := hok.2.2.1; rw [hclk] at this; exact this), if_neg (by have := hok.2.2.2.1; rw [hclk] at this; exact this), if_neg (by have := hok.2.2.2.2; rw [hclk] at this; exact this)]) (Nat.le_of_ble_eq_true rfl) (Nat.le_of_ble_eq_true rfl) dX7_mark_154 hQ
              · refine lv_iconst (v := 0) hx hb dX7_mark_133 (by decide) ?_
                refine lv_goto (tgt := 152) hx hb dX7_mark_134 (by decide) ?_
                refine lv_topr (y := markV (so k) v) (by unfold markV; grind) ?_
                refine s_iast (j := (24 * k + pn)) cf hw 3 rfl (ix24 k pn) (by omega) rfl dX7_mark_152 (fun H locs hw => ?_)
                have hw : WD g A s H locs [bO a 7 fs, bI g (ad 24) 4 so, bI g (ad 25) 4 sz, bI g (ad 26) 96 (upd nu (24 * k + pn) (markV (so k) v)), bZ g (ad 27) 96 (upd isn (24 * k + pn) (if v = -1000000005 then 0 else 1))] := hw
                refine lv_iconst (v := 1) hx hb dX7_mark_153 (by decide) ?_
                exact s_iret cf hr hlk () (by rw [show D_mark1 so sz isn (nI k) (nI pn) v = upd isn (24 * k + pn) (if v = -1000000005 then 0 else 1) from (if_pos hok).trans (by rw [hclk, nI_clamp (by omega)]), show D_mark2 so sz nu (nI k) (nI pn) v = upd nu (24 * k + pn) (markV (so k) v) from (if_pos hok).trans (by rw [hclk, nI_clamp (by omega)])]; exact hw) (by unfold R_mark; rw [if_pos hok.1, hclk, if_neg (Int32.not_lt.mpr c16), if_pos (by have := hok.2.2.1; rw [hclk] at this; exact this), if_neg (by have := hok.2.2.2.1; rw [hclk] at this; exact this), if_neg (by have := hok.2.2.2.2; rw [hclk] at this; exact this)]) (Nat.le_of_ble_eq_true rfl) (Nat.le_of_ble_eq_true rfl) dX7_mark_154 hQ
            · refine lv_iconst (v := 1) hx hb dX7_mark_111 (by decide) ?_
              refine lv_goto (tgt := 116) hx hb dX7_mark_112 (by decide) ?_
              refine lv_topr (y := if v = -1000000005 then 0 else 1) (by grind) ?_
              refine s_zast (j := (24 * k + pn)) cf hw 4 rfl (ix24 k pn) (by omega) rfl (by split <;> rfl) dX7_mark_116 (fun H locs hw => ?_)
              have hw : WD g A s H locs [bO a 7 fs, bI g (ad 24) 4 so, bI g (ad 25) 4 sz, bI g (ad 26) 96 nu, bZ g (ad 27) 96 (upd isn (24 * k + pn) (if v = -1000000005 then 0 else 1))] := hw
              refine lv_aload_n hx hb dX7_mark_117 rfl (lv_at hl 0 rfl) ?_
              refine s_get (v := .ref (ad 26)) fb7 cf hw 0 rfl 26 rfl q947 (hf.2 26 rfl) dX7_mark_118 ?_
              refine lv_bipush (v := 24) hx hb dX7_mark_121 (by decide) ?_
              refine lv_iload_n hx hb dX7_mark_123 rfl (lv_at hl 1 rfl) ?_
              refine lv_imul hx hb dX7_mark_124 ?_
              refine lv_iload_n hx hb dX7_mark_125 rfl (lv_at hl 2 rfl) ?_
              refine lv_iadd hx hb dX7_mark_126 ?_
              refine lv_iload_n hx hb dX7_mark_127 rfl (lv_at hl 3 rfl) ?_
              refine lv_ldc hx hb hown (hts _ q1198) dX7_mark_128 ?_
              refine lv_icmp_ne (tgt := 137) hx hb dX7_mark_130 (by decide) (fun c130 => ?_) (fun c130 => ?_)
              · refine lv_aload_n hx hb dX7_mark_137 rfl (lv_at hl 0 rfl) ?_
                refine s_get (v := .ref (ad 24)) fb7 cf hw 0 rfl 24 rfl q945 (hf.2 24 rfl) dX7_mark_138 ?_
                refine lv_iload_n hx hb dX7_mark_141 rfl (lv_at hl 1 rfl) ?_
                refine s_iald (j := k) cf hw 1 rfl (rfl) (by omega) rfl dX7_mark_142 ?_
                refine lv_if_ne (tgt := 151) hx hb dX7_mark_143 (by decide) (fun c143 => ?_) (fun c143 => ?_)
                · refine lv_iload_n hx hb dX7_mark_151 rfl (lv_at hl 3 rfl) ?_
                  refine lv_topr (y := markV (so k) v) (by unfold markV; grind) ?_
                  refine s_iast (j := (24 * k + pn)) cf hw 3 rfl (ix24 k pn) (by omega) rfl dX7_mark_152 (fun H locs hw => ?_)
                  have hw : WD g A s H locs [bO a 7 fs, bI g (ad 24) 4 so, bI g (ad 25) 4 sz, bI g (ad 26) 96 (upd nu (24 * k + pn) (markV (so k) v)), bZ g (ad 27) 96 (upd isn (24 * k + pn) (if v = -1000000005 then 0 else 1))] := hw
                  refine lv_iconst (v := 1) hx hb dX7_mark_153 (by decide) ?_
                  exact s_iret cf hr hlk () (by rw [show D_mark1 so sz isn (nI k) (nI pn) v = upd isn (24 * k + pn) (if v = -1000000005 then 0 else 1) from (if_pos hok).trans (by rw [hclk, nI_clamp (by omega)]), show D_mark2 so sz nu (nI k) (nI pn) v = upd nu (24 * k + pn) (markV (so k) v) from (if_pos hok).trans (by rw [hclk, nI_clamp (by omega)])]; exact hw) (by unfold R_mark; rw [if_pos hok.1, hclk, if_neg (Int32.not_lt.mpr c16), if_pos (by have := hok.2.2.1; rw [hclk] at this; exact this), if_neg (by have := hok.2.2.2.1; rw [hclk] at this; exact this), if_neg (by have := hok.2.2.2.2; rw [hclk] at this; exact this)]) (Nat.le_of_ble_eq_true rfl) (Nat.le_of_ble_eq_true rfl) dX7_mark_154 hQ
                · refine lv_iload_n hx hb dX7_mark_146 rfl (lv_at hl 3 rfl) ?_
                  refine lv_i2s (v := (v : Int32).toInt16.toInt32) hx hb dX7_mark_147 rfl ?_
                  refine lv_goto (tgt := 152) hx hb dX7_mark_148 (by decide) ?_
                  refine lv_topr (y := markV (so k) v) (by unfold markV; grind) ?_
                  refine s_iast (j := (24 * k + pn)) cf hw 3 rfl (ix24 k pn) (by omega) rfl dX7_mark_152 (fun H locs hw => ?_)
                  have hw : WD g A s H locs [bO a 7 fs, bI g (ad 24) 4 so, bI g (ad 25) 4 sz, bI g (ad 26) 96 (upd nu (24 * k + pn) (markV (so k) v)), bZ g (ad 27) 96 (upd isn (24 * k + pn) (if v = -1000000005 then 0 else 1))] := hw
                  refine lv_iconst (v := 1) hx hb dX7_mark_153 (by decide) ?_
                  exact s_iret cf hr hlk () (by rw [show D_mark1 so sz isn (nI k) (nI pn) v = upd isn (24 * k + pn) (if v = -1000000005 then 0 else 1) from (if_pos hok).trans (by rw [hclk, nI_clamp (by omega)]), show D_mark2 so sz nu (nI k) (nI pn) v = upd nu (24 * k + pn) (markV (so k) v) from (if_pos hok).trans (by rw [hclk, nI_clamp (by omega)])]; exact hw) (by unfold R_mark; rw [if_pos hok.1, hclk, if_neg (Int32.not_lt.mpr c16), if_pos (by have := hok.2.2.1; rw [hclk] at this; exact this), if_neg (by have := hok.2.2.2.1; rw [hclk] at this; exact this), if_neg (by have := hok.2.2.2.2; rw [hclk] at this; exact this)]) (Nat.le_of_ble_eq_true rfl) (Nat.le_of_ble_eq_true rfl) dX7_mark_154 hQ
              · refine lv_iconst (v := 0) hx hb dX7_mark_133 (by decide) ?_
                refine lv_goto (tgt := 152) hx hb dX7_mark_134 (by decide) ?_
                refine lv_topr (y := markV (so k) v) (by unfold markV; grind) ?_
                refine s_iast (j := (24 * k + pn)) cf hw 3 rfl (ix24 k pn) (by omega) rfl dX7_mark_152 (fun H locs hw => ?_)
                have hw : WD g A s H locs [bO a 7 fs, bI g (ad 24) 4 so, bI g (ad 25) 4 sz, bI g (ad 26) 96 (upd nu (24 * k + pn) (markV (so k) v)), bZ g (ad 27) 96 (upd isn (24 * k + pn) (if v = -1000000005 then 0 else 1))] := hw
                refine lv_iconst (v := 1) hx hb dX7_mark_153 (by decide) ?_
                exact s_iret cf hr hlk () (by rw [show D_mark1 so sz isn (nI k) (nI pn) v = upd isn (24 * k + pn) (if v = -1000000005 then 0 else 1) from (if_pos hok).trans (by rw [hclk, nI_clamp (by omega)]), show D_mark2 so sz nu (nI k) (nI pn) v = upd nu (24 * k + pn) (markV (so k) v) from (if_pos hok).trans (by rw [hclk, nI_clamp (by omega)])]; exact hw) (by unfold R_mark; rw [if_pos hok.1, hclk, if_neg (Int32.not_lt.mpr c16), if_pos (by have := hok.2.2.1; rw [hclk] at this; exact this), if_neg (by have := hok.2.2.2.1; rw [hclk] at this; exact this), if_neg (by have := hok.2.2.2.2; rw [hclk] at this; exact this)]) (Nat.le_of_ble_eq_true rfl) (Nat.le_of_ble_eq_true rfl) dX7_mark_154 hQ
          · refine lv_iload_n hx hb dX7_mark_72 rfl (lv_at hl 3 rfl) ?_
            refine lv_ldc hx hb hown (hts _ q1198) dX7_mark_73 ?_
            refine lv_icmp_eq (tgt := 95) hx hb dX7_mark_75 (by decide) (fun c75 => ?_) (fun c75 => ?_)
            · have hok : okMark so sz (nI k) p_ v := ⟨c4, by rw [hclk]; grind, by rw [hclk]; exact c37, by rw [hclk]; grind, by rw [hclk]; grind⟩
              obtain ⟨m, hm24, hm⟩ := hsz k (by omega)
              obtain ⟨pn, hpn, hpx, -⟩ := below_nat hm (by omega) c37
              subst hpx
              refine lv_aload_n hx hb dX7_mark_95 rfl (lv_at hl 0 rfl) ?_
              refine s_get (v := .ref (ad 27)) fb7 cf hw 0 rfl 27 rfl q948 (hf.2 27 rfl) dX7_mark_96 ?_
              refine lv_bipush (v := 24) hx hb dX7_mark_99 (by decide) ?_
              refine lv_iload_n hx hb dX7_mark_101 rfl (lv_at hl 1 rfl) ?_
              refine lv_imul hx hb dX7_mark_102 ?_
              refine lv_iload_n hx hb dX7_mark_103 rfl (lv_at hl 2 rfl) ?_
              refine lv_iadd hx hb dX7_mark_104 ?_
              refine lv_iload_n hx hb dX7_mark_105 rfl (lv_at hl 3 rfl) ?_
              refine lv_ldc hx hb hown (hts _ q1198) dX7_mark_106 ?_
              refine lv_icmp_eq (tgt := 115) hx hb dX7_mark_108 (by decide) (fun c108 => ?_) (fun c108 => ?_)
              · refine lv_iconst (v := 0) hx hb dX7_mark_115 (by decide) ?_
                refine lv_topr (y := if v = -1000000005 then 0 else 1) (by grind) ?_
                refine s_zast (j := (24 * k + pn)) cf hw 4 rfl (ix24 k pn) (by omega) rfl (by split <;> rfl) dX7_mark_116 (fun H locs hw => ?_)
                have hw : WD g A s H locs [bO a 7 fs, bI g (ad 24) 4 so, bI g (ad 25) 4 sz, bI g (ad 26) 96 nu, bZ g (ad 27) 96 (upd isn (24 * k + pn) (if v = -1000000005 then 0 else 1))] := hw
                refine lv_aload_n hx hb dX7_mark_117 rfl (lv_at hl 0 rfl) ?_
                refine s_get (v := .ref (ad 26)) fb7 cf hw 0 rfl 26 rfl q947 (hf.2 26 rfl) dX7_mark_118 ?_
                refine lv_bipush (v := 24) hx hb dX7_mark_121 (by decide) ?_
                refine lv_iload_n hx hb dX7_mark_123 rfl (lv_at hl 1 rfl) ?_
                refine lv_imul hx hb dX7_mark_124 ?_
                refine lv_iload_n hx hb dX7_mark_125 rfl (lv_at hl 2 rfl) ?_
                refine lv_iadd hx hb dX7_mark_126 ?_
                refine lv_iload_n hx hb dX7_mark_127 rfl (lv_at hl 3 rfl) ?_
                refine lv_ldc hx hb hown (hts _ q1198) dX7_mark_128 ?_
                refine lv_icmp_ne (tgt := 137) hx hb dX7_mark_130 (by decide) (fun c130 => ?_) (fun c130 => ?_)
                · refine lv_aload_n hx hb dX7_mark_137 rfl (lv_at hl 0 rfl) ?_
                  refine s_get (v := .ref (ad 24)) fb7 cf hw 0 rfl 24 rfl q945 (hf.2 24 rfl) dX7_mark_138 ?_
                  refine lv_iload_n hx hb dX7_mark_141 rfl (lv_at hl 1 rfl) ?_
                  refine s_iald (j := k) cf hw 1 rfl (rfl) (by omega) rfl dX7_mark_142 ?_
                  refine lv_if_ne (tgt := 151) hx hb dX7_mark_143 (by decide) (fun c143 => ?_) (fun c143 => ?_)
                  · refine lv_iload_n hx hb dX7_mark_151 rfl (lv_at hl 3 rfl) ?_
                    refine lv_topr (y := markV (so k) v) (by unfold markV; grind) ?_
                    refine s_iast (j := (24 * k + pn)) cf hw 3 rfl (ix24 k pn) (by omega) rfl dX7_mark_152 (fun H locs hw => ?_)
                    have hw : WD g A s H locs [bO a 7 fs, bI g (ad 24) 4 so, bI g (ad 25) 4 sz, bI g (ad 26) 96 (upd nu (24 * k + pn) (markV (so k) v)), bZ g (ad 27) 96 (upd isn (24 * k + pn) (if v = -1000000005 then 0 else 1))] := hw
                    refine lv_iconst (v := 1) hx hb dX7_mark_153 (by decide) ?_
                    exact s_iret cf hr hlk () (by rw [show D_mark1 so sz isn (nI k) (nI pn) v = upd isn (24 * k + pn) (if v = -1000000005 then 0 else 1) from (if_pos hok).trans (by rw [hclk, nI_clamp (by omega)]), show D_mark2 so sz nu (nI k) (nI pn) v = upd nu (24 * k + pn) (markV (so k) v) from (if_pos hok).trans (by rw [hclk, nI_clamp (by omega)])]; exact hw) (by unfold R_mark; rw [if_pos hok.1, hclk, if_neg (Int32.not_lt.mpr c16), if_pos (by have := hok.2.2.1; rw [hclk] at this; exact this), if_neg (by have := hok.2.2.2.1; rw [hclk] at this; exact this), if_neg (by have := hok.2.2.2.2; rw [hclk] at this; exact this)]) (Nat.le_of_ble_eq_true rfl) (Nat.le_of_ble_eq_true rfl) dX7_mark_154 hQ
                  · refine lv_iload_n hx hb dX7_mark_146 rfl (lv_at hl 3 rfl) ?_
                    refine lv_i2s (v := (v : Int32).toInt16.toInt32) hx hb dX7_mark_147 rfl ?_
                    refine lv_goto (tgt := 152) hx hb dX7_mark_148 (by decide) ?_
                    refine lv_topr (y := markV (so k) v) (by unfold markV; grind) ?_
                    refine s_iast (j := (24 * k + pn)) cf hw 3 rfl (ix24 k pn) (by omega) rfl dX7_mark_152 (fun H locs hw => ?_)
                    have hw : WD g A s H locs [bO a 7 fs, bI g (ad 24) 4 so, bI g (ad 25) 4 sz, bI g (ad 26) 96 (upd nu (24 * k + pn) (markV (so k) v)), bZ g (ad 27) 96 (upd isn (24 * k + pn) (if v = -1000000005 then 0 else 1))] := hw
                    refine lv_iconst (v := 1) hx hb dX7_mark_153 (by decide) ?_
                    exact s_iret cf hr hlk () (by rw [show D_mark1 so sz isn (nI k) (nI pn) v = upd isn (24 * k + pn) (if v = -1000000005 then 0 else 1) from (if_pos hok).trans (by rw [hclk, nI_clamp (by omega)]), show D_mark2 so sz nu (nI k) (nI pn) v = upd nu (24 * k + pn) (markV (so k) v) from (if_pos hok).trans (by rw [hclk, nI_clamp (by omega)])]; exact hw) (by unfold R_mark; rw [if_pos hok.1, hclk, if_neg (Int32.not_lt.mpr c16), if_pos (by have := hok.2.2.1; rw [hclk] at this; exact this), if_neg (by have := hok.2.2.2.1; rw [hclk] at this; exact this), if_neg (by have := hok.2.2.2.2; rw [hclk] at this; exact this)]) (Nat.le_of_ble_eq_true rfl) (Nat.le_of_ble_eq_true rfl) dX7_mark_154 hQ
                · refine lv_iconst (v := 0) hx hb dX7_mark_133 (by decide) ?_
                  refine lv_goto (tgt := 152) hx hb dX7_mark_134 (by decide) ?_
                  refine lv_topr (y := markV (so k) v) (by unfold markV; grind) ?_
                  refine s_iast (j := (24 * k + pn)) cf hw 3 rfl (ix24 k pn) (by omega) rfl dX7_mark_152 (fun H locs hw => ?_)
                  have hw : WD g A s H locs [bO a 7 fs, bI g (ad 24) 4 so, bI g (ad 25) 4 sz, bI g (ad 26) 96 (upd nu (24 * k + pn) (markV (so k) v)), bZ g (ad 27) 96 (upd isn (24 * k + pn) (if v = -1000000005 then 0 else 1))] := hw
                  refine lv_iconst (v := 1) hx hb dX7_mark_153 (by decide) ?_
                  exact s_iret cf hr hlk () (by rw [show D_mark1 so sz isn (nI k) (nI pn) v = upd isn (24 * k + pn) (if v = -1000000005 then 0 else 1) from (if_pos hok).trans (by rw [hclk, nI_clamp (by omega)]), show D_mark2 so sz nu (nI k) (nI pn) v = upd nu (24 * k + pn) (markV (so k) v) from (if_pos hok).trans (by rw [hclk, nI_clamp (by omega)])]; exact hw) (by unfold R_mark; rw [if_pos hok.1, hclk, if_neg (Int32.not_lt.mpr c16), if_pos (by have := hok.2.2.1; rw [hclk] at this; exact this), if_neg (by have := hok.2.2.2.1; rw [hclk] at this; exact this), if_neg (by have := hok.2.2.2.2; rw [hclk] at this; exact this)]) (Nat.le_of_ble_eq_true rfl) (Nat.le_of_ble_eq_true rfl) dX7_mark_154 hQ
              · refine lv_iconst (v := 1) hx hb dX7_mark_111 (by decide) ?_
                refine lv_goto (tgt := 116) hx hb dX7_mark_112 (by decide) ?_
                refine lv_topr (y := if v = -1000000005 then 0 else 1) (by grind) ?_
                refine s_zast (j := (24 * k + pn)) cf hw 4 rfl (ix24 k pn) (by omega) rfl (by split <;> rfl) dX7_mark_116 (fun H locs hw => ?_)
                have hw : WD g A s H locs [bO a 7 fs, bI g (ad 24) 4 so, bI g (ad 25) 4 sz, bI g (ad 26) 96 nu, bZ g (ad 27) 96 (upd isn (24 * k + pn) (if v = -1000000005 then 0 else 1))] := hw
                refine lv_aload_n hx hb dX7_mark_117 rfl (lv_at hl 0 rfl) ?_
                refine s_get (v := .ref (ad 26)) fb7 cf hw 0 rfl 26 rfl q947 (hf.2 26 rfl) dX7_mark_118 ?_
                refine lv_bipush (v := 24) hx hb dX7_mark_121 (by decide) ?_
                refine lv_iload_n hx hb dX7_mark_123 rfl (lv_at hl 1 rfl) ?_
                refine lv_imul hx hb dX7_mark_124 ?_
                refine lv_iload_n hx hb dX7_mark_125 rfl (lv_at hl 2 rfl) ?_
                refine lv_iadd hx hb dX7_mark_126 ?_
                refine lv_iload_n hx hb dX7_mark_127 rfl (lv_at hl 3 rfl) ?_
                refine lv_ldc hx hb hown (hts _ q1198) dX7_mark_128 ?_
                refine lv_icmp_ne (tgt := 137) hx hb dX7_mark_130 (by decide) (fun c130 => ?_) (fun c130 => ?_)
                · refine lv_aload_n hx hb dX7_mark_137 rfl (lv_at hl 0 rfl) ?_
                  refine s_get (v := .ref (ad 24)) fb7 cf hw 0 rfl 24 rfl q945 (hf.2 24 rfl) dX7_mark_138 ?_
                  refine lv_iload_n hx hb dX7_mark_141 rfl (lv_at hl 1 rfl) ?_
                  refine s_iald (j := k) cf hw 1 rfl (rfl) (by omega) rfl dX7_mark_142 ?_
                  refine lv_if_ne (tgt := 151) hx hb dX7_mark_143 (by decide) (fun c143 => ?_) (fun c143 => ?_)
                  · refine lv_iload_n hx hb dX7_mark_151 rfl (lv_at hl 3 rfl) ?_
                    refine lv_topr (y := markV (so k) v) (by unfold markV; grind) ?_
                    refine s_iast (j := (24 * k + pn)) cf hw 3 rfl (ix24 k pn) (by omega) rfl dX7_mark_152 (fun H locs hw => ?_)
                    have hw : WD g A s H locs [bO a 7 fs, bI g (ad 24) 4 so, bI g (ad 25) 4 sz, bI g (ad 26) 96 (upd nu (24 * k + pn) (markV (so k) v)), bZ g (ad 27) 96 (upd isn (24 * k + pn) (if v = -1000000005 then 0 else 1))] := hw
                    refine lv_iconst (v := 1) hx hb dX7_mark_153 (by decide) ?_
                    exact s_iret cf hr hlk () (by rw [show D_mark1 so sz isn (nI k) (nI pn) v = upd isn (24 * k + pn) (if v = -1000000005 then 0 else 1) from (if_pos hok).trans (by rw [hclk, nI_clamp (by omega)]), show D_mark2 so sz nu (nI k) (nI pn) v = upd nu (24 * k + pn) (markV (so k) v) from (if_pos hok).trans (by rw [hclk, nI_clamp (by omega)])]; exact hw) (by unfold R_mark; rw [if_pos hok.1, hclk, if_neg (Int32.not_lt.mpr c16), if_pos (by have := hok.2.2.1; rw [hclk] at this; exact this), if_neg (by have := hok.2.2.2.1; rw [hclk] at this; exact this), if_neg (by have := hok.2.2.2.2; rw [hclk] at this; exact this)]) (Nat.le_of_ble_eq_true rfl) (Nat.le_of_ble_eq_true rfl) dX7_mark_154 hQ
                  · refine lv_iload_n hx hb dX7_mark_146 rfl (lv_at hl 3 rfl) ?_
                    refine lv_i2s (v := (v : Int32).toInt16.toInt32) hx hb dX7_mark_147 rfl ?_
                    refine lv_goto (tgt := 152) hx hb dX7_mark_148 (by decide) ?_
                    refine lv_topr (y := markV (so k) v) (by unfold markV; grind) ?_
                    refine s_iast (j := (24 * k + pn)) cf hw 3 rfl (ix24 k pn) (by omega) rfl dX7_mark_152 (fun H locs hw => ?_)
                    have hw : WD g A s H locs [bO a 7 fs, bI g (ad 24) 4 so, bI g (ad 25) 4 sz, bI g (ad 26) 96 (upd nu (24 * k + pn) (markV (so k) v)), bZ g (ad 27) 96 (upd isn (24 * k + pn) (if v = -1000000005 then 0 else 1))] := hw
                    refine lv_iconst (v := 1) hx hb dX7_mark_153 (by decide) ?_
                    exact s_iret cf hr hlk () (by rw [show D_mark1 so sz isn (nI k) (nI pn) v = upd isn (24 * k + pn) (if v = -1000000005 then 0 else 1) from (if_pos hok).trans (by rw [hclk, nI_clamp (by omega)]), show D_mark2 so sz nu (nI k) (nI pn) v = upd nu (24 * k + pn) (markV (so k) v) from (if_pos hok).trans (by rw [hclk, nI_clamp (by omega)])]; exact hw) (by unfold R_mark; rw [if_pos hok.1, hclk, if_neg (Int32.not_lt.mpr c16), if_pos (by have := hok.2.2.1; rw [hclk] at this; exact this), if_neg (by have := hok.2.2.2.1; rw [hclk] at this; exact this), if_neg (by have := hok.2.2.2.2; rw [hclk] at this; exact this)]) (Nat.le_of_ble_eq_true rfl) (Nat.le_of_ble_eq_true rfl) dX7_mark_154 hQ
                · refine lv_iconst (v := 0) hx hb dX7_mark_133 (by decide) ?_
                  refine lv_goto (tgt := 152) hx hb dX7_mark_134 (by decide) ?_
                  refine lv_topr (y := markV (so k) v) (by unfold markV; grind) ?_
                  refine s_iast (j := (24 * k + pn)) cf hw 3 rfl (ix24 k pn) (by omega) rfl dX7_mark_152 (fun H locs hw => ?_)
                  have hw : WD g A s H locs [bO a 7 fs, bI g (ad 24) 4 so, bI g (ad 25) 4 sz, bI g (ad 26) 96 (upd nu (24 * k + pn) (markV (so k) v)), bZ g (ad 27) 96 (upd isn (24 * k + pn) (if v = -1000000005 then 0 else 1))] := hw
                  refine lv_iconst (v := 1) hx hb dX7_mark_153 (by decide) ?_
                  exact s_iret cf hr hlk () (by rw [show D_mark1 so sz isn (nI k) (nI pn) v = upd isn (24 * k + pn) (if v = -1000000005 then 0 else 1) from (if_pos hok).trans (by rw [hclk, nI_clamp (by omega)]), show D_mark2 so sz nu (nI k) (nI pn) v = upd nu (24 * k + pn) (markV (so k) v) from (if_pos hok).trans (by rw [hclk, nI_clamp (by omega)])]; exact hw) (by unfold R_mark; rw [if_pos hok.1, hclk, if_neg (Int32.not_lt.mpr c16), if_pos (by have := hok.2.2.1; rw [hclk] at this; exact this), if_neg (by have := hok.2.2.2.1; rw [hclk] at this; exact this), if_neg (by have := hok.2.2.2.2; rw [hclk] at this; exact this)]) (Nat.le_of_ble_eq_true rfl) (Nat.le_of_ble_eq_true rfl) dX7_mark_154 hQ
            · refine lv_iload_n hx hb dX7_mark_78 rfl (lv_at hl 3 rfl) ?_
              refine lv_i2l (v := (v : Int32).toInt64) hx hb dX7_mark_79 rfl ?_
              refine lv_ldc2 hx hb hown (hts _ q1343) dX7_mark_80 ?_
              refine lv_toplr (y := (-99999 : Int32).toInt64) (by decide) ?_
              refine lv_ldc2 hx hb hown (hts _ q1238) dX7_mark_83 ?_
              refine lv_toplr (y := (99999 : Int32).toInt64) (by decide) ?_
              refine s_calli (runS cf (m_in (v : Int32) (-99999 : Int32) (99999 : Int32)) hw [] (by decide) rfl km_X7_in ks_X7_in q1045 rfl rfl hl.1 rfl dX7_mark_86) hw [] (by decide) rfl (fun _ => rfl) (fun r_9 u_7 H locs hp_8 hw => ?_)
              have hw : WD g A s H locs [bO a 7 fs, bI g (ad 24) 4 so, bI g (ad 25) 4 sz, bI g (ad 26) 96 nu, bZ g (ad 27) 96 isn] := hw
              subst hp_8
              refine lv_if_ne (tgt := 95) hx hb dX7_mark_89 (by decide) (fun c89 => ?_) (fun c89 => ?_)
              · have c89 := b01_n c89
                have hok : okMark so sz (nI k) p_ v := ⟨c4, by rw [hclk]; grind, by rw [hclk]; exact c37, by rw [hclk]; grind, by rw [hclk]; grind⟩
                obtain ⟨m, hm24, hm⟩ := hsz k (by omega)
                obtain ⟨pn, hpn, hpx, -⟩ := below_nat hm (by omega) c37
                subst hpx
                refine lv_aload_n hx hb dX7_mark_95 rfl (lv_at hl 0 rfl) ?_
                refine s_get (v := .ref (ad 27)) fb7 cf hw 0 rfl 27 rfl q948 (hf.2 27 rfl) dX7_mark_96 ?_
                refine lv_bipush (v := 24) hx hb dX7_mark_99 (by decide) ?_
                refine lv_iload_n hx hb dX7_mark_101 rfl (lv_at hl 1 rfl) ?_
                refine lv_imul hx hb dX7_mark_102 ?_
                refine lv_iload_n hx hb dX7_mark_103 rfl (lv_at hl 2 rfl) ?_
                refine lv_iadd hx hb dX7_mark_104 ?_
                refine lv_iload_n hx hb dX7_mark_105 rfl (lv_at hl 3 rfl) ?_
                refine lv_ldc hx hb hown (hts _ q1198) dX7_mark_106 ?_
                refine lv_icmp_eq (tgt := 115) hx hb dX7_mark_108 (by decide) (fun c108 => ?_) (fun c108 => ?_)
                · refine lv_iconst (v := 0) hx hb dX7_mark_115 (by decide) ?_
                  refine lv_topr (y := if v = -1000000005 then 0 else 1) (by grind) ?_
                  refine s_zast (j := (24 * k + pn)) cf hw 4 rfl (ix24 k pn) (by omega) rfl (by split <;> rfl) dX7_mark_116 (fun H locs hw => ?_)
                  have hw : WD g A s H locs [bO a 7 fs, bI g (ad 24) 4 so, bI g (ad 25) 4 sz, bI g (ad 26) 96 nu, bZ g (ad 27) 96 (upd isn (24 * k + pn) (if v = -1000000005 then 0 else 1))] := hw
                  refine lv_aload_n hx hb dX7_mark_117 rfl (lv_at hl 0 rfl) ?_
                  refine s_get (v := .ref (ad 26)) fb7 cf hw 0 rfl 26 rfl q947 (hf.2 26 rfl) dX7_mark_118 ?_
                  refine lv_bipush (v := 24) hx hb dX7_mark_121 (by decide) ?_
                  refine lv_iload_n hx hb dX7_mark_123 rfl (lv_at hl 1 rfl) ?_
                  refine lv_imul hx hb dX7_mark_124 ?_
                  refine lv_iload_n hx hb dX7_mark_125 rfl (lv_at hl 2 rfl) ?_
                  refine lv_iadd hx hb dX7_mark_126 ?_
                  refine lv_iload_n hx hb dX7_mark_127 rfl (lv_at hl 3 rfl) ?_
                  refine lv_ldc hx hb hown (hts _ q1198) dX7_mark_128 ?_
                  refine lv_icmp_ne (tgt := 137) hx hb dX7_mark_130 (by decide) (fun c130 => ?_) (fun c130 => ?_)
                  · refine lv_aload_n hx hb dX7_mark_137 rfl (lv_at hl 0 rfl) ?_
                    refine s_get (v := .ref (ad 24)) fb7 cf hw 0 rfl 24 rfl q945 (hf.2 24 rfl) dX7_mark_138 ?_
                    refine lv_iload_n hx hb dX7_mark_141 rfl (lv_at hl 1 rfl) ?_
                    refine s_iald (j := k) cf hw 1 rfl (rfl) (by omega) rfl dX7_mark_142 ?_
                    refine lv_if_ne (tgt := 151) hx hb dX7_mark_143 (by decide) (fun c143 => ?_) (fun c143 => ?_)
                    · refine lv_iload_n hx hb dX7_mark_151 rfl (lv_at hl 3 rfl) ?_
                      refine lv_topr (y := markV (so k) v) (by unfold markV; grind) ?_
                      refine s_iast (j := (24 * k + pn)) cf hw 3 rfl (ix24 k pn) (by omega) rfl dX7_mark_152 (fun H locs hw => ?_)
                      have hw : WD g A s H locs [bO a 7 fs, bI g (ad 24) 4 so, bI g (ad 25) 4 sz, bI g (ad 26) 96 (upd nu (24 * k + pn) (markV (so k) v)), bZ g (ad 27) 96 (upd isn (24 * k + pn) (if v = -1000000005 then 0 else 1))] := hw
                      refine lv_iconst (v := 1) hx hb dX7_mark_153 (by decide) ?_
                      exact s_iret cf hr hlk () (by rw [show D_mark1 so sz isn (nI k) (nI pn) v = upd isn (24 * k + pn) (if v = -1000000005 then 0 else 1) from (if_pos hok).trans (by rw [hclk, nI_clamp (by omega)]), show D_mark2 so sz nu (nI k) (nI pn) v = upd nu (24 * k + pn) (markV (so k) v) from (if_pos hok).trans (by rw [hclk, nI_clamp (by omega)])]; exact hw) (by unfold R_mark; rw [if_pos hok.1, hclk, if_neg (Int32.not_lt.mpr c16), if_pos (by have := hok.2.2.1; rw [hclk] at this; exact this), if_neg (by have := hok.2.2.2.1; rw [hclk] at this; exact this), if_neg (by have := hok.2.2.2.2; rw [hclk] at this; exact this)]) (Nat.le_of_ble_eq_true rfl) (Nat.le_of_ble_eq_true rfl) dX7_mark_154 hQ
                    · refine lv_iload_n hx hb dX7_mark_146 rfl (lv_at hl 3 rfl) ?_
                      refine lv_i2s (v := (v : Int32).toInt16.toInt32) hx hb dX7_mark_147 rfl ?_
                      refine lv_goto (tgt := 152) hx hb dX7_mark_148 (by decide) ?_
                      refine lv_topr (y := markV (so k) v) (by unfold markV; grind) ?_
                      refine s_iast (j := (24 * k + pn)) cf hw 3 rfl (ix24 k pn) (by omega) rfl dX7_mark_152 (fun H locs hw => ?_)
                      have hw : WD g A s H locs [bO a 7 fs, bI g (ad 24) 4 so, bI g (ad 25) 4 sz, bI g (ad 26) 96 (upd nu (24 * k + pn) (markV (so k) v)), bZ g (ad 27) 96 (upd isn (24 * k + pn) (if v = -1000000005 then 0 else 1))] := hw
                      refine lv_iconst (v := 1) hx hb dX7_mark_153 (by decide) ?_
                      exact s_iret cf hr hlk () (by rw [show D_mark1 so sz isn (nI k) (nI pn) v = upd isn (24 * k + pn) (if v = -1000000005 then 0 else 1) from (if_pos hok).trans (by rw [hclk, nI_clamp (by omega)]), show D_mark2 so sz nu (nI k) (nI pn) v = upd nu (24 * k + pn) (markV (so k) v) from (if_pos hok).trans (by rw [hclk, nI_clamp (by omega)])]; exact hw) (by unfold R_mark; rw [if_pos hok.1, hclk, if_neg (Int32.not_lt.mpr c16), if_pos (by have := hok.2.2.1; rw [hclk] at this; exact this), if_neg (by have := hok.2.2.2.1; rw [hclk] at this; exact this), if_neg (by have := hok.2.2.2.2; rw [hclk] at this; exact this)]) (Nat.le_of_ble_eq_true rfl) (Nat.le_of_ble_eq_true rfl) dX7_mark_154 hQ
                  · refine lv_iconst (v := 0) hx hb dX7_mark_133 (by decide) ?_
                    refine lv_goto (tgt := 152) hx hb dX7_mark_134 (by decide) ?_
                    refine lv_topr (y := markV (so k) v) (by unfold markV; grind) ?_
                    refine s_iast (j := (24 * k + pn)) cf hw 3 rfl (ix24 k pn) (by omega) rfl dX7_mark_152 (fun H locs hw => ?_)
                    have hw : WD g A s H locs [bO a 7 fs, bI g (ad 24) 4 so, bI g (ad 25) 4 sz, bI g (ad 26) 96 (upd nu (24 * k + pn) (markV (so k) v)), bZ g (ad 27) 96 (upd isn (24 * k + pn) (if v = -1000000005 then 0 else 1))] := hw
                    refine lv_iconst (v := 1) hx hb dX7_mark_153 (by decide) ?_
                    exact s_iret cf hr hlk () (by rw [show D_mark1 so sz isn (nI k) (nI pn) v = upd isn (24 * k + pn) (if v = -1000000005 then 0 else 1) from (if_pos hok).trans (by rw [hclk, nI_clamp (by omega)]), show D_mark2 so sz nu (nI k) (nI pn) v = upd nu (24 * k + pn) (markV (so k) v) from (if_pos hok).trans (by rw [hclk, nI_clamp (by omega)])]; exact hw) (by unfold R_mark; rw [if_pos hok.1, hclk, if_neg (Int32.not_lt.mpr c16), if_pos (by have := hok.2.2.1; rw [hclk] at this; exact this), if_neg (by have := hok.2.2.2.1; rw [hclk] at this; exact this), if_neg (by have := hok.2.2.2.2; rw [hclk] at this; exact this)]) (Nat.le_of_ble_eq_true rfl) (Nat.le_of_ble_eq_true rfl) dX7_mark_154 hQ
                · refine lv_iconst (v := 1) hx hb dX7_mark_111 (by decide) ?_
                  refine lv_goto (tgt := 116) hx hb dX7_mark_112 (by decide) ?_
                  refine lv_topr (y := if v = -1000000005 then 0 else 1) (by grind) ?_
                  refine s_zast (j := (24 * k + pn)) cf hw 4 rfl (ix24 k pn) (by omega) rfl (by split <;> rfl) dX7_mark_116 (fun H locs hw => ?_)
                  have hw : WD g A s H locs [bO a 7 fs, bI g (ad 24) 4 so, bI g (ad 25) 4 sz, bI g (ad 26) 96 nu, bZ g (ad 27) 96 (upd isn (24 * k + pn) (if v = -1000000005 then 0 else 1))] := hw
                  refine lv_aload_n hx hb dX7_mark_117 rfl (lv_at hl 0 rfl) ?_
                  refine s_get (v := .ref (ad 26)) fb7 cf hw 0 rfl 26 rfl q947 (hf.2 26 rfl) dX7_mark_118 ?_
                  refine lv_bipush (v := 24) hx hb dX7_mark_121 (by decide) ?_
                  refine lv_iload_n hx hb dX7_mark_123 rfl (lv_at hl 1 rfl) ?_
                  refine lv_imul hx hb dX7_mark_124 ?_
                  refine lv_iload_n hx hb dX7_mark_125 rfl (lv_at hl 2 rfl) ?_
                  refine lv_iadd hx hb dX7_mark_126 ?_
                  refine lv_iload_n hx hb dX7_mark_127 rfl (lv_at hl 3 rfl) ?_
                  refine lv_ldc hx hb hown (hts _ q1198) dX7_mark_128 ?_
                  refine lv_icmp_ne (tgt := 137) hx hb dX7_mark_130 (by decide) (fun c130 => ?_) (fun c130 => ?_)
                  · refine lv_aload_n hx hb dX7_mark_137 rfl (lv_at hl 0 rfl) ?_
                    refine s_get (v := .ref (ad 24)) fb7 cf hw 0 rfl 24 rfl q945 (hf.2 24 rfl) dX7_mark_138 ?_
                    refine lv_iload_n hx hb dX7_mark_141 rfl (lv_at hl 1 rfl) ?_
                    refine s_iald (j := k) cf hw 1 rfl (rfl) (by omega) rfl dX7_mark_142 ?_
                    refine lv_if_ne (tgt := 151) hx hb dX7_mark_143 (by decide) (fun c143 => ?_) (fun c143 => ?_)
                    · refine lv_iload_n hx hb dX7_mark_151 rfl (lv_at hl 3 rfl) ?_
                      refine lv_topr (y := markV (so k) v) (by unfold markV; grind) ?_
                      refine s_iast (j := (24 * k + pn)) cf hw 3 rfl (ix24 k pn) (by omega) rfl dX7_mark_152 (fun H locs hw => ?_)
                      have hw : WD g A s H locs [bO a 7 fs, bI g (ad 24) 4 so, bI g (ad 25) 4 sz, bI g (ad 26) 96 (upd nu (24 * k + pn) (markV (so k) v)), bZ g (ad 27) 96 (upd isn (24 * k + pn) (if v = -1000000005 then 0 else 1))] := hw
                      refine lv_iconst (v := 1) hx hb dX7_mark_153 (by decide) ?_
                      exact s_iret cf hr hlk () (by rw [show D_mark1 so sz isn (nI k) (nI pn) v = upd isn (24 * k + pn) (if v = -1000000005 then 0 else 1) from (if_pos hok).trans (by rw [hclk, nI_clamp (by omega)]), show D_mark2 so sz nu (nI k) (nI pn) v = upd nu (24 * k + pn) (markV (so k) v) from (if_pos hok).trans (by rw [hclk, nI_clamp (by omega)])]; exact hw) (by unfold R_mark; rw [if_pos hok.1, hclk, if_neg (Int32.not_lt.mpr c16), if_pos (by have := hok.2.2.1; rw [hclk] at this; exact this), if_neg (by have := hok.2.2.2.1; rw [hclk] at this; exact this), if_neg (by have := hok.2.2.2.2; rw [hclk] at this; exact this)]) (Nat.le_of_ble_eq_true rfl) (Nat.le_of_ble_eq_true rfl) dX7_mark_154 hQ
                    · refine lv_iload_n hx hb dX7_mark_146 rfl (lv_at hl 3 rfl) ?_
                      refine lv_i2s (v := (v : Int32).toInt16.toInt32) hx hb dX7_mark_147 rfl ?_
                      refine lv_goto (tgt := 152) hx hb dX7_mark_148 (by decide) ?_
                      refine lv_topr (y := markV (so k) v) (by unfold markV; grind) ?_
                      refine s_iast (j := (24 * k + pn)) cf hw 3 rfl (ix24 k pn) (by omega) rfl dX7_mark_152 (fun H locs hw => ?_)
                      have hw : WD g A s H locs [bO a 7 fs, bI g (ad 24) 4 so, bI g (ad 25) 4 sz, bI g (ad 26) 96 (upd nu (24 * k + pn) (markV (so k) v)), bZ g (ad 27) 96 (upd isn (24 * k + pn) (if v = -1000000005 then 0 else 1))] := hw
                      refine lv_iconst (v := 1) hx hb dX7_mark_153 (by decide) ?_
                      exact s_iret cf hr hlk () (by rw [show D_mark1 so sz isn (nI k) (nI pn) v = upd isn (24 * k + pn) (if v = -1000000005 then 0 else 1) from (if_pos hok).trans (by rw [hclk, nI_clamp (by omega)]), show D_mark2 so sz nu (nI k) (nI pn) v = upd nu (24 * k + pn) (markV (so k) v) from (if_pos hok).trans (by rw [hclk, nI_clamp (by omega)])]; exact hw) (by unfold R_mark; rw [if_pos hok.1, hclk, if_neg (Int32.not_lt.mpr c16), if_pos (by have := hok.2.2.1; rw [hclk] at this; exact this), if_neg (by have := hok.2.2.2.1; rw [hclk] at this; exact this), if_neg (by have := hok.2.2.2.2; rw [hclk] at this; exact this)]) (Nat.le_of_ble_eq_true rfl) (Nat.le_of_ble_eq_true rfl) dX7_mark_154 hQ
                  · refine lv_iconst (v := 0) hx hb dX7_mark_133 (by decide) ?_
                    refine lv_goto (tgt := 152) hx hb dX7_mark_134 (by decide) ?_
                    refine lv_topr (y := markV (so k) v) (by unfold markV; grind) ?_
                    refine s_iast (j := (24 * k + pn)) cf hw 3 rfl (ix24 k pn) (by omega) rfl dX7_mark_152 (fun H locs hw => ?_)
                    have hw : WD g A s H locs [bO a 7 fs, bI g (ad 24) 4 so, bI g (ad 25) 4 sz, bI g (ad 26) 96 (upd nu (24 * k + pn) (markV (so k) v)), bZ g (ad 27) 96 (upd isn (24 * k + pn) (if v = -1000000005 then 0 else 1))] := hw
                    refine lv_iconst (v := 1) hx hb dX7_mark_153 (by decide) ?_
                    exact s_iret cf hr hlk () (by rw [show D_mark1 so sz isn (nI k) (nI pn) v = upd isn (24 * k + pn) (if v = -1000000005 then 0 else 1) from (if_pos hok).trans (by rw [hclk, nI_clamp (by omega)]), show D_mark2 so sz nu (nI k) (nI pn) v = upd nu (24 * k + pn) (markV (so k) v) from (if_pos hok).trans (by rw [hclk, nI_clamp (by omega)])]; exact hw) (by unfold R_mark; rw [if_pos hok.1, hclk, if_neg (Int32.not_lt.mpr c16), if_pos (by have := hok.2.2.1; rw [hclk] at this; exact this), if_neg (by have := hok.2.2.2.1; rw [hclk] at this; exact this), if_neg (by have := hok.2.2.2.2; rw [hclk] at this; exact this)]) (Nat.le_of_ble_eq_true rfl) (Nat.le_of_ble_eq_true rfl) dX7_mark_154 hQ
              · have c89 := b01_z c89
                refine lv_ldc hx hb hown (hts _ q1049) dX7_mark_92 ?_
                exact s_iret cf hr hlk () (by rw [show D_mark1 so sz isn (nI k) p_ v = isn from if_neg (by unfold okMark; rw [hclk]; grind), show D_mark2 so sz nu (nI k) p_ v = nu from if_neg (by unfold okMark; rw [hclk]; grind)]; exact hw) (by unfold R_mark; rw [if_pos c4, hclk, if_neg (Int32.not_lt.mpr c16), if_pos c37, if_neg (by grind), if_pos (by grind)]) (Nat.le_of_ble_eq_true rfl) (Nat.le_of_ble_eq_true rfl) dX7_mark_94 hQ
        · refine lv_iload_n hx hb dX7_mark_53 rfl (lv_at hl 3 rfl) ?_
          refine lv_ldc hx hb hown (hts _ q1198) dX7_mark_54 ?_
          refine lv_icmp_ne (tgt := 62) hx hb dX7_mark_56 (by decide) (fun c56 => ?_) (fun c56 => ?_)
          · refine lv_aload_n hx hb dX7_mark_62 rfl (lv_at hl 0 rfl) ?_
            refine s_get (v := .ref (ad 24)) fb7 cf hw 0 rfl 24 rfl q945 (hf.2 24 rfl) dX7_mark_63 ?_
            refine lv_iload_n hx hb dX7_mark_66 rfl (lv_at hl 1 rfl) ?_
            refine s_iald (j := k) cf hw 1 rfl (rfl) (by omega) rfl dX7_mark_67 ?_
            refine lv_iconst (v := 1) hx hb dX7_mark_68 (by decide) ?_
            refine lv_icmp_ne (tgt := 95) hx hb dX7_mark_69 (by decide) (fun c69 => ?_) (fun c69 => ?_)
            · have hok : okMark so sz (nI k) p_ v := ⟨c4, by rw [hclk]; grind, by rw [hclk]; exact c37, by rw [hclk]; grind, by rw [hclk]; grind⟩
              obtain ⟨m, hm24, hm⟩ := hsz k (by omega)
              obtain ⟨pn, hpn, hpx, -⟩ := below_nat hm (by omega) c37
              subst hpx
              refine lv_aload_n hx hb dX7_mark_95 rfl (lv_at hl 0 rfl) ?_
              refine s_get (v := .ref (ad 27)) fb7 cf hw 0 rfl 27 rfl q948 (hf.2 27 rfl) dX7_mark_96 ?_
              refine lv_bipush (v := 24) hx hb dX7_mark_99 (by decide) ?_
              refine lv_iload_n hx hb dX7_mark_101 rfl (lv_at hl 1 rfl) ?_
              refine lv_imul hx hb dX7_mark_102 ?_
              refine lv_iload_n hx hb dX7_mark_103 rfl (lv_at hl 2 rfl) ?_
              refine lv_iadd hx hb dX7_mark_104 ?_
              refine lv_iload_n hx hb dX7_mark_105 rfl (lv_at hl 3 rfl) ?_
              refine lv_ldc hx hb hown (hts _ q1198) dX7_mark_106 ?_
              refine lv_icmp_eq (tgt := 115) hx hb dX7_mark_108 (by decide) (fun c108 => ?_) (fun c108 => ?_)
              · refine lv_iconst (v := 0) hx hb dX7_mark_115 (by decide) ?_
                refine lv_topr (y := if v = -1000000005 then 0 else 1) (by grind) ?_
                refine s_zast (j := (24 * k + pn)) cf hw 4 rfl (ix24 k pn) (by omega) rfl (by split <;> rfl) dX7_mark_116 (fun H locs hw => ?_)
                have hw : WD g A s H locs [bO a 7 fs, bI g (ad 24) 4 so, bI g (ad 25) 4 sz, bI g (ad 26) 96 nu, bZ g (ad 27) 96 (upd isn (24 * k + pn) (if v = -1000000005 then 0 else 1))] := hw
                refine lv_aload_n hx hb dX7_mark_117 rfl (lv_at hl 0 rfl) ?_
                refine s_get (v := .ref (ad 26)) fb7 cf hw 0 rfl 26 rfl q947 (hf.2 26 rfl) dX7_mark_118 ?_
                refine lv_bipush (v := 24) hx hb dX7_mark_121 (by decide) ?_
                refine lv_iload_n hx hb dX7_mark_123 rfl (lv_at hl 1 rfl) ?_
                refine lv_imul hx hb dX7_mark_124 ?_
                refine lv_iload_n hx hb dX7_mark_125 rfl (lv_at hl 2 rfl) ?_
                refine lv_iadd hx hb dX7_mark_126 ?_
                refine lv_iload_n hx hb dX7_mark_127 rfl (lv_at hl 3 rfl) ?_
                refine lv_ldc hx hb hown (hts _ q1198) dX7_mark_128 ?_
                refine lv_icmp_ne (tgt := 137) hx hb dX7_mark_130 (by decide) (fun c130 => ?_) (fun c130 => ?_)
                · refine lv_aload_n hx hb dX7_mark_137 rfl (lv_at hl 0 rfl) ?_
                  refine s_get (v := .ref (ad 24)) fb7 cf hw 0 rfl 24 rfl q945 (hf.2 24 rfl) dX7_mark_138 ?_
                  refine lv_iload_n hx hb dX7_mark_141 rfl (lv_at hl 1 rfl) ?_
                  refine s_iald (j := k) cf hw 1 rfl (rfl) (by omega) rfl dX7_mark_142 ?_
                  refine lv_if_ne (tgt := 151) hx hb dX7_mark_143 (by decide) (fun c143 => ?_) (fun c143 => ?_)
                  · refine lv_iload_n hx hb dX7_mark_151 rfl (lv_at hl 3 rfl) ?_
                    refine lv_topr (y := markV (so k) v) (by unfold markV; grind) ?_
                    refine s_iast (j := (24 * k + pn)) cf hw 3 rfl (ix24 k pn) (by omega) rfl dX7_mark_152 (fun H locs hw => ?_)
                    have hw : WD g A s H locs [bO a 7 fs, bI g (ad 24) 4 so, bI g (ad 25) 4 sz, bI g (ad 26) 96 (upd nu (24 * k + pn) (markV (so k) v)), bZ g (ad 27) 96 (upd isn (24 * k + pn) (if v = -1000000005 then 0 else 1))] := hw
                    refine lv_iconst (v := 1) hx hb dX7_mark_153 (by decide) ?_
                    exact s_iret cf hr hlk () (by rw [show D_mark1 so sz isn (nI k) (nI pn) v = upd isn (24 * k + pn) (if v = -1000000005 then 0 else 1) from (if_pos hok).trans (by rw [hclk, nI_clamp (by omega)]), show D_mark2 so sz nu (nI k) (nI pn) v = upd nu (24 * k + pn) (markV (so k) v) from (if_pos hok).trans (by rw [hclk, nI_clamp (by omega)])]; exact hw) (by unfold R_mark; rw [if_pos hok.1, hclk, if_neg (Int32.not_lt.mpr c16), if_pos (by have := hok.2.2.1; rw [hclk] at this; exact this), if_neg (by have := hok.2.2.2.1; rw [hclk] at this; exact this), if_neg (by have := hok.2.2.2.2; rw [hclk] at this; exact this)]) (Nat.le_of_ble_eq_true rfl) (Nat.le_of_ble_eq_true rfl) dX7_mark_154 hQ
                  · refine lv_iload_n hx hb dX7_mark_146 rfl (lv_at hl 3 rfl) ?_
                    refine lv_i2s (v := (v : Int32).toInt16.toInt32) hx hb dX7_mark_147 rfl ?_
                    refine lv_goto (tgt := 152) hx hb dX7_mark_148 (by decide) ?_
                    refine lv_topr (y := markV (so k) v) (by unfold markV; grind) ?_
                    refine s_iast (j := (24 * k + pn)) cf hw 3 rfl (ix24 k pn) (by omega) rfl dX7_mark_152 (fun H locs hw => ?_)
                    have hw : WD g A s H locs [bO a 7 fs, bI g (ad 24) 4 so, bI g (ad 25) 4 sz, bI g (ad 26) 96 (upd nu (24 * k + pn) (markV (so k) v)), bZ g (ad 27) 96 (upd isn (24 * k + pn) (if v = -1000000005 then 0 else 1))] := hw
                    refine lv_iconst (v := 1) hx hb dX7_mark_153 (by decide) ?_
                    exact s_iret cf hr hlk () (by rw [show D_mark1 so sz isn (nI k) (nI pn) v = upd isn (24 * k + pn) (if v = -1000000005 then 0 else 1) from (if_pos hok).trans (by rw [hclk, nI_clamp (by omega)]), show D_mark2 so sz nu (nI k) (nI pn) v = upd nu (24 * k + pn) (markV (so k) v) from (if_pos hok).trans (by rw [hclk, nI_clamp (by omega)])]; exact hw) (by unfold R_mark; rw [if_pos hok.1, hclk, if_neg (Int32.not_lt.mpr c16), if_pos (by have := hok.2.2.1; rw [hclk] at this; exact this), if_neg (by have := hok.2.2.2.1; rw [hclk] at this; exact this), if_neg (by have := hok.2.2.2.2; rw [hclk] at this; exact this)]) (Nat.le_of_ble_eq_true rfl) (Nat.le_of_ble_eq_true rfl) dX7_mark_154 hQ
                · refine lv_iconst (v := 0) hx hb dX7_mark_133 (by decide) ?_
                  refine lv_goto (tgt := 152) hx hb dX7_mark_134 (by decide) ?_
                  refine lv_topr (y := markV (so k) v) (by unfold markV; grind) ?_
                  refine s_iast (j := (24 * k + pn)) cf hw 3 rfl (ix24 k pn) (by omega) rfl dX7_mark_152 (fun H locs hw => ?_)
                  have hw : WD g A s H locs [bO a 7 fs, bI g (ad 24) 4 so, bI g (ad 25) 4 sz, bI g (ad 26) 96 (upd nu (24 * k + pn) (markV (so k) v)), bZ g (ad 27) 96 (upd isn (24 * k + pn) (if v = -1000000005 then 0 else 1))] := hw
                  refine lv_iconst (v := 1) hx hb dX7_mark_153 (by decide) ?_
                  exact s_iret cf hr hlk () (by rw [show D_mark1 so sz isn (nI k) (nI pn) v = upd isn (24 * k + pn) (if v = -1000000005 then 0 else 1) from (if_pos hok).trans (by rw [hclk, nI_clamp (by omega)]), show D_mark2 so sz nu (nI k) (nI pn) v = upd nu (24 * k + pn) (markV (so k) v) from (if_pos hok).trans (by rw [hclk, nI_clamp (by omega)])]; exact hw) (by unfold R_mark; rw [if_pos hok.1, hclk, if_neg (Int32.not_lt.mpr c16), if_pos (by have := hok.2.2.1; rw [hclk] at this; exact this), if_neg (by have := hok.2.2.2.1; rw [hclk] at this; exact this), if_neg (by have := hok.2.2.2.2; rw [hclk] at this; exact this)]) (Nat.le_of_ble_eq_true rfl) (Nat.le_of_ble_eq_true rfl) dX7_mark_154 hQ
              · refine lv_iconst (v := 1) hx hb dX7_mark_111 (by decide) ?_
                refine lv_goto (tgt := 116) hx hb dX7_mark_112 (by decide) ?_
                refine lv_topr (y := if v = -1000000005 then 0 else 1) (by grind) ?_
                refine s_zast (j := (24 * k + pn)) cf hw 4 rfl (ix24 k pn) (by omega) rfl (by split <;> rfl) dX7_mark_116 (fun H locs hw => ?_)
                have hw : WD g A s H locs [bO a 7 fs, bI g (ad 24) 4 so, bI g (ad 25) 4 sz, bI g (ad 26) 96 nu, bZ g (ad 27) 96 (upd isn (24 * k + pn) (if v = -1000000005 then 0 else 1))] := hw
                refine lv_aload_n hx hb dX7_mark_117 rfl (lv_at hl 0 rfl) ?_
                refine s_get (v := .ref (ad 26)) fb7 cf hw 0 rfl 26 rfl q947 (hf.2 26 rfl) dX7_mark_118 ?_
                refine lv_bipush (v := 24) hx hb dX7_mark_121 (by decide) ?_
                refine lv_iload_n hx hb dX7_mark_123 rfl (lv_at hl 1 rfl) ?_
                refine lv_imul hx hb dX7_mark_124 ?_
                refine lv_iload_n hx hb dX7_mark_125 rfl (lv_at hl 2 rfl) ?_
                refine lv_iadd hx hb dX7_mark_126 ?_
                refine lv_iload_n hx hb dX7_mark_127 rfl (lv_at hl 3 rfl) ?_
                refine lv_ldc hx hb hown (hts _ q1198) dX7_mark_128 ?_
                refine lv_icmp_ne (tgt := 137) hx hb dX7_mark_130 (by decide) (fun c130 => ?_) (fun c130 => ?_)
                · refine lv_aload_n hx hb dX7_mark_137 rfl (lv_at hl 0 rfl) ?_
                  refine s_get (v := .ref (ad 24)) fb7 cf hw 0 rfl 24 rfl q945 (hf.2 24 rfl) dX7_mark_138 ?_
                  refine lv_iload_n hx hb dX7_mark_141 rfl (lv_at hl 1 rfl) ?_
                  refine s_iald (j := k) cf hw 1 rfl (rfl) (by omega) rfl dX7_mark_142 ?_
                  refine lv_if_ne (tgt := 151) hx hb dX7_mark_143 (by decide) (fun c143 => ?_) (fun c143 => ?_)
                  · refine lv_iload_n hx hb dX7_mark_151 rfl (lv_at hl 3 rfl) ?_
                    refine lv_topr (y := markV (so k) v) (by unfold markV; grind) ?_
                    refine s_iast (j := (24 * k + pn)) cf hw 3 rfl (ix24 k pn) (by omega) rfl dX7_mark_152 (fun H locs hw => ?_)
                    have hw : WD g A s H locs [bO a 7 fs, bI g (ad 24) 4 so, bI g (ad 25) 4 sz, bI g (ad 26) 96 (upd nu (24 * k + pn) (markV (so k) v)), bZ g (ad 27) 96 (upd isn (24 * k + pn) (if v = -1000000005 then 0 else 1))] := hw
                    refine lv_iconst (v := 1) hx hb dX7_mark_153 (by decide) ?_
                    exact s_iret cf hr hlk () (by rw [show D_mark1 so sz isn (nI k) (nI pn) v = upd isn (24 * k + pn) (if v = -1000000005 then 0 else 1) from (if_pos hok).trans (by rw [hclk, nI_clamp (by omega)]), show D_mark2 so sz nu (nI k) (nI pn) v = upd nu (24 * k + pn) (markV (so k) v) from (if_pos hok).trans (by rw [hclk, nI_clamp (by omega)])]; exact hw) (by unfold R_mark; rw [if_pos hok.1, hclk, if_neg (Int32.not_lt.mpr c16), if_pos (by have := hok.2.2.1; rw [hclk] at this; exact this), if_neg (by have := hok.2.2.2.1; rw [hclk] at this; exact this), if_neg (by have := hok.2.2.2.2; rw [hclk] at this; exact this)]) (Nat.le_of_ble_eq_true rfl) (Nat.le_of_ble_eq_true rfl) dX7_mark_154 hQ
                  · refine lv_iload_n hx hb dX7_mark_146 rfl (lv_at hl 3 rfl) ?_
                    refine lv_i2s (v := (v : Int32).toInt16.toInt32) hx hb dX7_mark_147 rfl ?_
                    refine lv_goto (tgt := 152) hx hb dX7_mark_148 (by decide) ?_
                    refine lv_topr (y := markV (so k) v) (by unfold markV; grind) ?_
                    refine s_iast (j := (24 * k + pn)) cf hw 3 rfl (ix24 k pn) (by omega) rfl dX7_mark_152 (fun H locs hw => ?_)
                    have hw : WD g A s H locs [bO a 7 fs, bI g (ad 24) 4 so, bI g (ad 25) 4 sz, bI g (ad 26) 96 (upd nu (24 * k + pn) (markV (so k) v)), bZ g (ad 27) 96 (upd isn (24 * k + pn) (if v = -1000000005 then 0 else 1))] := hw
                    refine lv_iconst (v := 1) hx hb dX7_mark_153 (by decide) ?_
                    exact s_iret cf hr hlk () (by rw [show D_mark1 so sz isn (nI k) (nI pn) v = upd isn (24 * k + pn) (if v = -1000000005 then 0 else 1) from (if_pos hok).trans (by rw [hclk, nI_clamp (by omega)]), show D_mark2 so sz nu (nI k) (nI pn) v = upd nu (24 * k + pn) (markV (so k) v) from (if_pos hok).trans (by rw [hclk, nI_clamp (by omega)])]; exact hw) (by unfold R_mark; rw [if_pos hok.1, hclk, if_neg (Int32.not_lt.mpr c16), if_pos (by have := hok.2.2.1; rw [hclk] at this; exact this), if_neg (by have := hok.2.2.2.1; rw [hclk] at this; exact this), if_neg (by have := hok.2.2.2.2; rw [hclk] at this; exact this)]) (Nat.le_of_ble_eq_true rfl) (Nat.le_of_ble_eq_true rfl) dX7_mark_154 hQ
                · refine lv_iconst (v := 0) hx hb dX7_mark_133 (by decide) ?_
                  refine lv_goto (tgt := 152) hx hb dX7_mark_134 (by decide) ?_
                  refine lv_topr (y := markV (so k) v) (by unfold markV; grind) ?_
                  refine s_iast (j := (24 * k + pn)) cf hw 3 rfl (ix24 k pn) (by omega) rfl dX7_mark_152 (fun H locs hw => ?_)
                  have hw : WD g A s H locs [bO a 7 fs, bI g (ad 24) 4 so, bI g (ad 25) 4 sz, bI g (ad 26) 96 (upd nu (24 * k + pn) (markV (so k) v)), bZ g (ad 27) 96 (upd isn (24 * k + pn) (if v = -1000000005 then 0 else 1))] := hw
                  refine lv_iconst (v := 1) hx hb dX7_mark_153 (by decide) ?_
                  exact s_iret cf hr hlk () (by rw [show D_mark1 so sz isn (nI k) (nI pn) v = upd isn (24 * k + pn) (if v = -1000000005 then 0 else 1) from (if_pos hok).trans (by rw [hclk, nI_clamp (by omega)]), show D_mark2 so sz nu (nI k) (nI pn) v = upd nu (24 * k + pn) (markV (so k) v) from (if_pos hok).trans (by rw [hclk, nI_clamp (by omega)])]; exact hw) (by unfold R_mark; rw [if_pos hok.1, hclk, if_neg (Int32.not_lt.mpr c16), if_pos (by have := hok.2.2.1; rw [hclk] at this; exact this), if_neg (by have := hok.2.2.2.1; rw [hclk] at this; exact this), if_neg (by have := hok.2.2.2.2; rw [hclk] at this; exact this)]) (Nat.le_of_ble_eq_true rfl) (Nat.le_of_ble_eq_true rfl) dX7_mark_154 hQ
            · refine lv_iload_n hx hb dX7_mark_72 rfl (lv_at hl 3 rfl) ?_
              refine lv_ldc hx hb hown (hts _ q1198) dX7_mark_73 ?_
              refine lv_icmp_eq (tgt := 95) hx hb dX7_mark_75 (by decide) (fun c75 => ?_) (fun c75 => ?_)
              · have hok : okMark so sz (nI k) p_ v := ⟨c4, by rw [hclk]; grind, by rw [hclk]; exact c37, by rw [hclk]; grind, by rw [hclk]; grind⟩
                obtain ⟨m, hm24, hm⟩ := hsz k (by omega)
                obtain ⟨pn, hpn, hpx, -⟩ := below_nat hm (by omega) c37
                subst hpx
                refine lv_aload_n hx hb dX7_mark_95 rfl (lv_at hl 0 rfl) ?_
                refine s_get (v := .ref (ad 27)) fb7 cf hw 0 rfl 27 rfl q948 (hf.2 27 rfl) dX7_mark_96 ?_
                refine lv_bipush (v := 24) hx hb dX7_mark_99 (by decide) ?_
                refine lv_iload_n hx hb dX7_mark_101 rfl (lv_at hl 1 rfl) ?_
                refine lv_imul hx hb dX7_mark_102 ?_
                refine lv_iload_n hx hb dX7_mark_103 rfl (lv_at hl 2 rfl) ?_
                refine lv_iadd hx hb dX7_mark_104 ?_
                refine lv_iload_n hx hb dX7_mark_105 rfl (lv_at hl 3 rfl) ?_
                refine lv_ldc hx hb hown (hts _ q1198) dX7_mark_106 ?_
                refine lv_icmp_eq (tgt := 115) hx hb dX7_mark_108 (by decide) (fun c108 => ?_) (fun c108 => ?_)
                · refine lv_iconst (v := 0) hx hb dX7_mark_115 (by decide) ?_
                  refine lv_topr (y := if v = -1000000005 then 0 else 1) (by grind) ?_
                  refine s_zast (j := (24 * k + pn)) cf hw 4 rfl (ix24 k pn) (by omega) rfl (by split <;> rfl) dX7_mark_116 (fun H locs hw => ?_)
                  have hw : WD g A s H locs [bO a 7 fs, bI g (ad 24) 4 so, bI g (ad 25) 4 sz, bI g (ad 26) 96 nu, bZ g (ad 27) 96 (upd isn (24 * k + pn) (if v = -1000000005 then 0 else 1))] := hw
                  refine lv_aload_n hx hb dX7_mark_117 rfl (lv_at hl 0 rfl) ?_
                  refine s_get (v := .ref (ad 26)) fb7 cf hw 0 rfl 26 rfl q947 (hf.2 26 rfl) dX7_mark_118 ?_
                  refine lv_bipush (v := 24) hx hb dX7_mark_121 (by decide) ?_
                  refine lv_iload_n hx hb dX7_mark_123 rfl (lv_at hl 1 rfl) ?_
                  refine lv_imul hx hb dX7_mark_124 ?_
                  refine lv_iload_n hx hb dX7_mark_125 rfl (lv_at hl 2 rfl) ?_
                  refine lv_iadd hx hb dX7_mark_126 ?_
                  refine lv_iload_n hx hb dX7_mark_127 rfl (lv_at hl 3 rfl) ?_
                  refine lv_ldc hx hb hown (hts _ q1198) dX7_mark_128 ?_
                  refine lv_icmp_ne (tgt := 137) hx hb dX7_mark_130 (by decide) (fun c130 => ?_) (fun c130 => ?_)
                  · refine lv_aload_n hx hb dX7_mark_137 rfl (lv_at hl 0 rfl) ?_
                    refine s_get (v := .ref (ad 24)) fb7 cf hw 0 rfl 24 rfl q945 (hf.2 24 rfl) dX7_mark_138 ?_
                    refine lv_iload_n hx hb dX7_mark_141 rfl (lv_at hl 1 rfl) ?_
                    refine s_iald (j := k) cf hw 1 rfl (rfl) (by omega) rfl dX7_mark_142 ?_
                    refine lv_if_ne (tgt := 151) hx hb dX7_mark_143 (by decide) (fun c143 => ?_) (fun c143 => ?_)
                    · refine lv_iload_n hx hb dX7_mark_151 rfl (lv_at hl 3 rfl) ?_
                      refine lv_topr (y := markV (so k) v) (by unfold markV; grind) ?_
                      refine s_iast (j := (24 * k + pn)) cf hw 3 rfl (ix24 k pn) (by omega) rfl dX7_mark_152 (fun H locs hw => ?_)
                      have hw : WD g A s H locs [bO a 7 fs, bI g (ad 24) 4 so, bI g (ad 25) 4 sz, bI g (ad 26) 96 (upd nu (24 * k + pn) (markV (so k) v)), bZ g (ad 27) 96 (upd isn (24 * k + pn) (if v = -1000000005 then 0 else 1))] := hw
                      refine lv_iconst (v := 1) hx hb dX7_mark_153 (by decide) ?_
                      exact s_iret cf hr hlk () (by rw [show D_mark1 so sz isn (nI k) (nI pn) v = upd isn (24 * k + pn) (if v = -1000000005 then 0 else 1) from (if_pos hok).trans (by rw [hclk, nI_clamp (by omega)]), show D_mark2 so sz nu (nI k) (nI pn) v = upd nu (24 * k + pn) (markV (so k) v) from (if_pos hok).trans (by rw [hclk, nI_clamp (by omega)])]; exact hw) (by unfold R_mark; rw [if_pos hok.1, hclk, if_neg (Int32.not_lt.mpr c16), if_pos (by have := hok.2.2.1; rw [hclk] at this; exact this), if_neg (by have := hok.2.2.2.1; rw [hclk] at this; exact this), if_neg (by have := hok.2.2.2.2; rw [hclk] at this; exact this)]) (Nat.le_of_ble_eq_true rfl) (Nat.le_of_ble_eq_true rfl) dX7_mark_154 hQ
                    · refine lv_iload_n hx hb dX7_mark_146 rfl (lv_at hl 3 rfl) ?_
                      refine lv_i2s (v := (v : Int32).toInt16.toInt32) hx hb dX7_mark_147 rfl ?_
                      refine lv_goto (tgt := 152) hx hb dX7_mark_148 (by decide) ?_
                      refine lv_topr (y := markV (so k) v) (by unfold markV; grind) ?_
                      refine s_iast (j := (24 * k + pn)) cf hw 3 rfl (ix24 k pn) (by omega) rfl dX7_mark_152 (fun H locs hw => ?_)
                      have hw : WD g A s H locs [bO a 7 fs, bI g (ad 24) 4 so, bI g (ad 25) 4 sz, bI g (ad 26) 96 (upd nu (24 * k + pn) (markV (so k) v)), bZ g (ad 27) 96 (upd isn (24 * k + pn) (if v = -1000000005 then 0 else 1))] := hw
                      refine lv_iconst (v := 1) hx hb dX7_mark_153 (by decide) ?_
                      exact s_iret cf hr hlk () (by rw [show D_mark1 so sz isn (nI k) (nI pn) v = upd isn (24 * k + pn) (if v = -1000000005 then 0 else 1) from (if_pos hok).trans (by rw [hclk, nI_clamp (by omega)]), show D_mark2 so sz nu (nI k) (nI pn) v = upd nu (24 * k + pn) (markV (so k) v) from (if_pos hok).trans (by rw [hclk, nI_clamp (by omega)])]; exact hw) (by unfold R_mark; rw [if_pos hok.1, hclk, if_neg (Int32.not_lt.mpr c16), if_pos (by have := hok.2.2.1; rw [hclk] at this; exact this), if_neg (by have := hok.2.2.2.1; rw [hclk] at this; exact this), if_neg (by have := hok.2.2.2.2; rw [hclk] at this; exact this)]) (Nat.le_of_ble_eq_true rfl) (Nat.le_of_ble_eq_true rfl) dX7_mark_154 hQ
                  · refine lv_iconst (v := 0) hx hb dX7_mark_133 (by decide) ?_
                    refine lv_goto (tgt := 152) hx hb dX7_mark_134 (by decide) ?_
                    refine lv_topr (y := markV (so k) v) (by unfold markV; grind) ?_
                    refine s_iast (j := (24 * k + pn)) cf hw 3 rfl (ix24 k pn) (by omega) rfl dX7_mark_152 (fun H locs hw => ?_)
                    have hw : WD g A s H locs [bO a 7 fs, bI g (ad 24) 4 so, bI g (ad 25) 4 sz, bI g (ad 26) 96 (upd nu (24 * k + pn) (markV (so k) v)), bZ g (ad 27) 96 (upd isn (24 * k + pn) (if v = -1000000005 then 0 else 1))] := hw
                    refine lv_iconst (v := 1) hx hb dX7_mark_153 (by decide) ?_
                    exact s_iret cf hr hlk () (by rw [show D_mark1 so sz isn (nI k) (nI pn) v = upd isn (24 * k + pn) (if v = -1000000005 then 0 else 1) from (if_pos hok).trans (by rw [hclk, nI_clamp (by omega)]), show D_mark2 so sz nu (nI k) (nI pn) v = upd nu (24 * k + pn) (markV (so k) v) from (if_pos hok).trans (by rw [hclk, nI_clamp (by omega)])]; exact hw) (by unfold R_mark; rw [if_pos hok.1, hclk, if_neg (Int32.not_lt.mpr c16), if_pos (by have := hok.2.2.1; rw [hclk] at this; exact this), if_neg (by have := hok.2.2.2.1; rw [hclk] at this; exact this), if_neg (by have := hok.2.2.2.2; rw [hclk] at this; exact this)]) (Nat.le_of_ble_eq_true rfl) (Nat.le_of_ble_eq_true rfl) dX7_mark_154 hQ
                · refine lv_iconst (v := 1) hx hb dX7_mark_111 (by decide) ?_
                  refine lv_goto (tgt := 116) hx hb dX7_mark_112 (by decide) ?_
                  refine lv_topr (y := if v = -1000000005 then 0 else 1) (by grind) ?_
                  refine s_zast (j := (24 * k + pn)) cf hw 4 rfl (ix24 k pn) (by omega) rfl (by split <;> rfl) dX7_mark_116 (fun H locs hw => ?_)
                  have hw : WD g A s H locs [bO a 7 fs, bI g (ad 24) 4 so, bI g (ad 25) 4 sz, bI g (ad 26) 96 nu, bZ g (ad 27) 96 (upd isn (24 * k + pn) (if v = -1000000005 then 0 else 1))] := hw
                  refine lv_aload_n hx hb dX7_mark_117 rfl (lv_at hl 0 rfl) ?_
                  refine s_get (v := .ref (ad 26)) fb7 cf hw 0 rfl 26 rfl q947 (hf.2 26 rfl) dX7_mark_118 ?_
                  refine lv_bipush (v := 24) hx hb dX7_mark_121 (by decide) ?_
                  refine lv_iload_n hx hb dX7_mark_123 rfl (lv_at hl 1 rfl) ?_
                  refine lv_imul hx hb dX7_mark_124 ?_
                  refine lv_iload_n hx hb dX7_mark_125 rfl (lv_at hl 2 rfl) ?_
                  refine lv_iadd hx hb dX7_mark_126 ?_
                  refine lv_iload_n hx hb dX7_mark_127 rfl (lv_at hl 3 rfl) ?_
                  refine lv_ldc hx hb hown (hts _ q1198) dX7_mark_128 ?_
                  refine lv_icmp_ne (tgt := 137) hx hb dX7_mark_130 (by decide) (fun c130 => ?_) (fun c130 => ?_)
                  · refine lv_aload_n hx hb dX7_mark_137 rfl (lv_at hl 0 rfl) ?_
                    refine s_get (v := .ref (ad 24)) fb7 cf hw 0 rfl 24 rfl q945 (hf.2 24 rfl) dX7_mark_138 ?_
                    refine lv_iload_n hx hb dX7_mark_141 rfl (lv_at hl 1 rfl) ?_
                    refine s_iald (j := k) cf hw 1 rfl (rfl) (by omega) rfl dX7_mark_142 ?_
                    refine lv_if_ne (tgt := 151) hx hb dX7_mark_143 (by decide) (fun c143 => ?_) (fun c143 => ?_)
                    · refine lv_iload_n hx hb dX7_mark_151 rfl (lv_at hl 3 rfl) ?_
                      refine lv_topr (y := markV (so k) v) (by unfold markV; grind) ?_
                      refine s_iast (j := (24 * k + pn)) cf hw 3 rfl (ix24 k pn) (by omega) rfl dX7_mark_152 (fun H locs hw => ?_)
                      have hw : WD g A s H locs [bO a 7 fs, bI g (ad 24) 4 so, bI g (ad 25) 4 sz, bI g (ad 26) 96 (upd nu (24 * k + pn) (markV (so k) v)), bZ g (ad 27) 96 (upd isn (24 * k + pn) (if v = -1000000005 then 0 else 1))] := hw
                      refine lv_iconst (v := 1) hx hb dX7_mark_153 (by decide) ?_
                      exact s_iret cf hr hlk () (by rw [show D_mark1 so sz isn (nI k) (nI pn) v = upd isn (24 * k + pn) (if v = -1000000005 then 0 else 1) from (if_pos hok).trans (by rw [hclk, nI_clamp (by omega)]), show D_mark2 so sz nu (nI k) (nI pn) v = upd nu (24 * k + pn) (markV (so k) v) from (if_pos hok).trans (by rw [hclk, nI_clamp (by omega)])]; exact hw) (by unfold R_mark; rw [if_pos hok.1, hclk, if_neg (Int32.not_lt.mpr c16), if_pos (by have := hok.2.2.1; rw [hclk] at this; exact this), if_neg (by have := hok.2.2.2.1; rw [hclk] at this; exact this), if_neg (by have := hok.2.2.2.2; rw [hclk] at this; exact this)]) (Nat.le_of_ble_eq_true rfl) (Nat.le_of_ble_eq_true rfl) dX7_mark_154 hQ
                    · refine lv_iload_n hx hb dX7_mark_146 rfl (lv_at hl 3 rfl) ?_
                      refine lv_i2s (v := (v : Int32).toInt16.toInt32) hx hb dX7_mark_147 rfl ?_
                      refine lv_goto (tgt := 152) hx hb dX7_mark_148 (by decide) ?_
                      refine lv_topr (y := markV (so k) v) (by unfold markV; grind) ?_
                      refine s_iast (j := (24 * k + pn)) cf hw 3 rfl (ix24 k pn) (by omega) rfl dX7_mark_152 (fun H locs hw => ?_)
                      have hw : WD g A s H locs [bO a 7 fs, bI g (ad 24) 4 so, bI g (ad 25) 4 sz, bI g (ad 26) 96 (upd nu (24 * k + pn) (markV (so k) v)), bZ g (ad 27) 96 (upd isn (24 * k + pn) (if v = -1000000005 then 0 else 1))] := hw
                      refine lv_iconst (v := 1) hx hb dX7_mark_153 (by decide) ?_
                      exact s_iret cf hr hlk () (by rw [show D_mark1 so sz isn (nI k) (nI pn) v = upd isn (24 * k + pn) (if v = -1000000005 then 0 else 1) from (if_pos hok).trans (by rw [hclk, nI_clamp (by omega)]), show D_mark2 so sz nu (nI k) (nI pn) v = upd nu (24 * k + pn) (markV (so k) v) from (if_pos hok).trans (by rw [hclk, nI_clamp (by omega)])]; exact hw) (by unfold R_mark; rw [if_pos hok.1, hclk, if_neg (Int32.not_lt.mpr c16), if_pos (by have := hok.2.2.1; rw [hclk] at this; exact this), if_neg (by have := hok.2.2.2.1; rw [hclk] at this; exact this), if_neg (by have := hok.2.2.2.2; rw [hclk] at this; exact this)]) (Nat.le_of_ble_eq_true rfl) (Nat.le_of_ble_eq_true rfl) dX7_mark_154 hQ
                  · refine lv_iconst (v := 0) hx hb dX7_mark_133 (by decide) ?_
                    refine lv_goto (tgt := 152) hx hb dX7_mark_134 (by decide) ?_
                    refine lv_topr (y := markV (so k) v) (by unfold markV; grind) ?_
                    refine s_iast (j := (24 * k + pn)) cf hw 3 rfl (ix24 k pn) (by omega) rfl dX7_mark_152 (fun H locs hw => ?_)
                    have hw : WD g A s H locs [bO a 7 fs, bI g (ad 24) 4 so, bI g (ad 25) 4 sz, bI g (ad 26) 96 (upd nu (24 * k + pn) (markV (so k) v)), bZ g (ad 27) 96 (upd isn (24 * k + pn) (if v = -1000000005 then 0 else 1))] := hw
                    refine lv_iconst (v := 1) hx hb dX7_mark_153 (by decide) ?_
                    exact s_iret cf hr hlk () (by rw [show D_mark1 so sz isn (nI k) (nI pn) v = upd isn (24 * k + pn) (if v = -1000000005 then 0 else 1) from (if_pos hok).trans (by rw [hclk, nI_clamp (by omega)]), show D_mark2 so sz nu (nI k) (nI pn) v = upd nu (24 * k + pn) (markV (so k) v) from (if_pos hok).trans (by rw [hclk, nI_clamp (by omega)])]; exact hw) (by unfold R_mark; rw [if_pos hok.1, hclk, if_neg (Int32.not_lt.mpr c16), if_pos (by have := hok.2.2.1; rw [hclk] at this; exact this), if_neg (by have := hok.2.2.2.1; rw [hclk] at this; exact this), if_neg (by have := hok.2.2.2.2; rw [hclk] at this; exact this)]) (Nat.le_of_ble_eq_true rfl) (Nat.le_of_ble_eq_true rfl) dX7_mark_154 hQ
              · refine lv_iload_n hx hb dX7_mark_78 rfl (lv_at hl 3 rfl) ?_
                refine lv_i2l (v := (v : Int32).toInt64) hx hb dX7_mark_79 rfl ?_
                refine lv_ldc2 hx hb hown (hts _ q1343) dX7_mark_80 ?_
                refine lv_toplr (y := (-99999 : Int32).toInt64) (by decide) ?_
                refine lv_ldc2 hx hb hown (hts _ q1238) dX7_mark_83 ?_
                refine lv_toplr (y := (99999 : Int32).toInt64) (by decide) ?_
                refine s_calli (runS cf (m_in (v : Int32) (-99999 : Int32) (99999 : Int32)) hw [] (by decide) rfl km_X7_in ks_X7_in q1045 rfl rfl hl.1 rfl dX7_mark_86) hw [] (by decide) rfl (fun _ => rfl) (fun r_12 u_10 H locs hp_11 hw => ?_)
                have hw : WD g A s H locs [bO a 7 fs, bI g (ad 24) 4 so, bI g (ad 25) 4 sz, bI g (ad 26) 96 nu, bZ g (ad 27) 96 isn] := hw
                subst hp_11
                refine lv_if_ne (tgt := 95) hx hb dX7_mark_89 (by decide) (fun c89 => ?_) (fun c89 => ?_)
                · have c89 := b01_n c89
                  have hok : okMark so sz (nI k) p_ v := ⟨c4, by rw [hclk]; grind, by rw [hclk]; exact c37, by rw [hclk]; grind, by rw [hclk]; grind⟩
                  obtain ⟨m, hm24, hm⟩ := hsz k (by omega)
                  obtain ⟨pn, hpn, hpx, -⟩ := below_nat hm (by omega) c37
                  subst hpx
                  refine lv_aload_n hx hb dX7_mark_95 rfl (lv_at hl 0 rfl) ?_
                  refine s_get (v := .ref (ad 27)) fb7 cf hw 0 rfl 27 rfl q948 (hf.2 27 rfl) dX7_mark_96 ?_
                  refine lv_bipush (v := 24) hx hb dX7_mark_99 (by decide) ?_
                  refine lv_iload_n hx hb dX7_mark_101 rfl (lv_at hl 1 rfl) ?_
                  refine lv_imul hx hb dX7_mark_102 ?_
                  refine lv_iload_n hx hb dX7_mark_103 rfl (lv_at hl 2 rfl) ?_
                  refine lv_iadd hx hb dX7_mark_104 ?_
                  refine lv_iload_n hx hb dX7_mark_105 rfl (lv_at hl 3 rfl) ?_
                  refine lv_ldc hx hb hown (hts _ q1198) dX7_mark_106 ?_
                  refine lv_icmp_eq (tgt := 115) hx hb dX7_mark_108 (by decide) (fun c108 => ?_) (fun c108 => ?_)
                  · refine lv_iconst (v := 0) hx hb dX7_mark_115 (by decide) ?_
                    refine lv_topr (y := if v = -1000000005 then 0 else 1) (by grind) ?_
                    refine s_zast (j := (24 * k + pn)) cf hw 4 rfl (ix24 k pn) (by omega) rfl (by split <;> rfl) dX7_mark_116 (fun H locs hw => ?_)
                    have hw : WD g A s H locs [bO a 7 fs, bI g (ad 24) 4 so, bI g (ad 25) 4 sz, bI g (ad 26) 96 nu, bZ g (ad 27) 96 (upd isn (24 * k + pn) (if v = -1000000005 then 0 else 1))] := hw
                    refine lv_aload_n hx hb dX7_mark_117 rfl (lv_at hl 0 rfl) ?_
                    refine s_get (v := .ref (ad 26)) fb7 cf hw 0 rfl 26 rfl q947 (hf.2 26 rfl) dX7_mark_118 ?_
                    refine lv_bipush (v := 24) hx hb dX7_mark_121 (by decide) ?_
                    refine lv_iload_n hx hb dX7_mark_123 rfl (lv_at hl 1 rfl) ?_
                    refine lv_imul hx hb dX7_mark_124 ?_
                    refine lv_iload_n hx hb dX7_mark_125 rfl (lv_at hl 2 rfl) ?_
                    refine lv_iadd hx hb dX7_mark_126 ?_
                    refine lv_iload_n hx hb dX7_mark_127 rfl (lv_at hl 3 rfl) ?_
                    refine lv_ldc hx hb hown (hts _ q1198) dX7_mark_128 ?_
                    refine lv_icmp_ne (tgt := 137) hx hb dX7_mark_130 (by decide) (fun c130 => ?_) (fun c130 => ?_)
                    · refine lv_aload_n hx hb dX7_mark_137 rfl (lv_at hl 0 rfl) ?_
                      refine s_get (v := .ref (ad 24)) fb7 cf hw 0 rfl 24 rfl q945 (hf.2 24 rfl) dX7_mark_138 ?_
                      refine lv_iload_n hx hb dX7_mark_141 rfl (lv_at hl 1 rfl) ?_
                      refine s_iald (j := k) cf hw 1 rfl (rfl) (by omega) rfl dX7_mark_142 ?_
                      refine lv_if_ne (tgt := 151) hx hb dX7_mark_143 (by decide) (fun c143 => ?_) (fun c143 => ?_)
                      · refine lv_iload_n hx hb dX7_mark_151 rfl (lv_at hl 3 rfl) ?_
                        refine lv_topr (y := markV (so k) v) (by unfold markV; grind) ?_
                        refine s_iast (j := (24 * k + pn)) cf hw 3 rfl (ix24 k pn) (by omega) rfl dX7_mark_152 (fun H locs hw => ?_)
                        have hw : WD g A s H locs [bO a 7 fs, bI g (ad 24) 4 so, bI g (ad 25) 4 sz, bI g (ad 26) 96 (upd nu (24 * k + pn) (markV (so k) v)), bZ g (ad 27) 96 (upd isn (24 * k + pn) (if v = -1000000005 then 0 else 1))] := hw
                        refine lv_iconst (v := 1) hx hb dX7_mark_153 (by decide) ?_
                        exact s_iret cf hr hlk () (by rw [show D_mark1 so sz isn (nI k) (nI pn) v = upd isn (24 * k + pn) (if v = -1000000005 then 0 else 1) from (if_pos hok).trans (by rw [hclk, nI_clamp (by omega)]), show D_mark2 so sz nu (nI k) (nI pn) v = upd nu (24 * k + pn) (markV (so k) v) from (if_pos hok).trans (by rw [hclk, nI_clamp (by omega)])]; exact hw) (by unfold R_mark; rw [if_pos hok.1, hclk, if_neg (Int32.not_lt.mpr c16), if_pos (by have := hok.2.2.1; rw [hclk] at this; exact this), if_neg (by have := hok.2.2.2.1; rw [hclk] at this; exact this), if_neg (by have := hok.2.2.2.2; rw [hclk] at this; exact this)]) (Nat.le_of_ble_eq_true rfl) (Nat.le_of_ble_eq_true rfl) dX7_mark_154 hQ
                      · refine lv_iload_n hx hb dX7_mark_146 rfl (lv_at hl 3 rfl) ?_
                        refine lv_i2s (v := (v : Int32).toInt16.toInt32) hx hb dX7_mark_147 rfl ?_
                        refine lv_goto (tgt := 152) hx hb dX7_mark_148 (by decide) ?_
                        refine lv_topr (y := markV (so k) v) (by unfold markV; grind) ?_
                        refine s_iast (j := (24 * k + pn)) cf hw 3 rfl (ix24 k pn) (by omega) rfl dX7_mark_152 (fun H locs hw => ?_)
                        have hw : WD g A s H locs [bO a 7 fs, bI g (ad 24) 4 so, bI g (ad 25) 4 sz, bI g (ad 26) 96 (upd nu (24 * k + pn) (markV (so k) v)), bZ g (ad 27) 96 (upd isn (24 * k + pn) (if v = -1000000005 then 0 else 1))] := hw
                        refine lv_iconst (v := 1) hx hb dX7_mark_153 (by decide) ?_
                        exact s_iret cf hr hlk () (by rw [show D_mark1 so sz isn (nI k) (nI pn) v = upd isn (24 * k + pn) (if v = -1000000005 then 0 else 1) from (if_pos hok).trans (by rw [hclk, nI_clamp (by omega)]), show D_mark2 so sz nu (nI k) (nI pn) v = upd nu (24 * k + pn) (markV (so k) v) from (if_pos hok).trans (by rw [hclk, nI_clamp (by omega)])]; exact hw) (by unfold R_mark; rw [if_pos hok.1, hclk, if_neg (Int32.not_lt.mpr c16), if_pos (by have := hok.2.2.1; rw [hclk] at this; exact this), if_neg (by have := hok.2.2.2.1; rw [hclk] at this; exact this), if_neg (by have := hok.2.2.2.2; rw [hclk] at this; exact this)]) (Nat.le_of_ble_eq_true rfl) (Nat.le_of_ble_eq_true rfl) dX7_mark_154 hQ
                    · refine lv_iconst (v := 0) hx hb dX7_mark_133 (by decide) ?_
                      refine lv_goto (tgt := 152) hx hb dX7_mark_134 (by decide) ?_
                      refine lv_topr (y := markV (so k) v) (by unfold markV; grind) ?_
                      refine s_iast (j := (24 * k + pn)) cf hw 3 rfl (ix24 k pn) (by omega) rfl dX7_mark_152 (fun H locs hw => ?_)
                      have hw : WD g A s H locs [bO a 7 fs, bI g (ad 24) 4 so, bI g (ad 25) 4 sz, bI g (ad 26) 96 (upd nu (24 * k + pn) (markV (so k) v)), bZ g (ad 27) 96 (upd isn (24 * k + pn) (if v = -1000000005 then 0 else 1))] := hw
                      refine lv_iconst (v := 1) hx hb dX7_mark_153 (by decide) ?_
                      exact s_iret cf hr hlk () (by rw [show D_mark1 so sz isn (nI k) (nI pn) v = upd isn (24 * k + pn) (if v = -1000000005 then 0 else 1) from (if_pos hok).trans (by rw [hclk, nI_clamp (by omega)]), show D_mark2 so sz nu (nI k) (nI pn) v = upd nu (24 * k + pn) (markV (so k) v) from (if_pos hok).trans (by rw [hclk, nI_clamp (by omega)])]; exact hw) (by unfold R_mark; rw [if_pos hok.1, hclk, if_neg (Int32.not_lt.mpr c16), if_pos (by have := hok.2.2.1; rw [hclk] at this; exact this), if_neg (by have := hok.2.2.2.1; rw [hclk] at this; exact this), if_neg (by have := hok.2.2.2.2; rw [hclk] at this; exact this)]) (Nat.le_of_ble_eq_true rfl) (Nat.le_of_ble_eq_true rfl) dX7_mark_154 hQ
                  · refine lv_iconst (v := 1) hx hb dX7_mark_111 (by decide) ?_
                    refine lv_goto (tgt := 116) hx hb dX7_mark_112 (by decide) ?_
                    refine lv_topr (y := if v = -1000000005 then 0 else 1) (by grind) ?_
                    refine s_zast (j := (24 * k + pn)) cf hw 4 rfl (ix24 k pn) (by omega) rfl (by split <;> rfl) dX7_mark_116 (fun H locs hw => ?_)
                    have hw : WD g A s H locs [bO a 7 fs, bI g (ad 24) 4 so, bI g (ad 25) 4 sz, bI g (ad 26) 96 nu, bZ g (ad 27) 96 (upd isn (24 * k + pn) (if v = -1000000005 then 0 else 1))] := hw
                    refine lv_aload_n hx hb dX7_mark_117 rfl (lv_at hl 0 rfl) ?_
                    refine s_get (v := .ref (ad 26)) fb7 cf hw 0 rfl 26 rfl q947 (hf.2 26 rfl) dX7_mark_118 ?_
                    refine lv_bipush (v := 24) hx hb dX7_mark_121 (by decide) ?_
                    refine lv_iload_n hx hb dX7_mark_123 rfl (lv_at hl 1 rfl) ?_
                    refine lv_imul hx hb dX7_mark_124 ?_
                    refine lv_iload_n hx hb dX7_mark_125 rfl (lv_at hl 2 rfl) ?_
                    refine lv_iadd hx hb dX7_mark_126 ?_
                    refine lv_iload_n hx hb dX7_mark_127 rfl (lv_at hl 3 rfl) ?_
                    refine lv_ldc hx hb hown (hts _ q1198) dX7_mark_128 ?_
                    refine lv_icmp_ne (tgt := 137) hx hb dX7_mark_130 (by decide) (fun c130 => ?_) (fun c130 => ?_)
                    · refine lv_aload_n hx hb dX7_mark_137 rfl (lv_at hl 0 rfl) ?_
                      refine s_get (v := .ref (ad 24)) fb7 cf hw 0 rfl 24 rfl q945 (hf.2 24 rfl) dX7_mark_138 ?_
                      refine lv_iload_n hx hb dX7_mark_141 rfl (lv_at hl 1 rfl) ?_
                      refine s_iald (j := k) cf hw 1 rfl (rfl) (by omega) rfl dX7_mark_142 ?_
                      refine lv_if_ne (tgt := 151) hx hb dX7_mark_143 (by decide) (fun c143 => ?_) (fun c143 => ?_)
                      · refine lv_iload_n hx hb dX7_mark_151 rfl (lv_at hl 3 rfl) ?_
                        refine lv_topr (y := markV (so k) v) (by unfold markV; grind) ?_
                        refine s_iast (j := (24 * k + pn)) cf hw 3 rfl (ix24 k pn) (by omega) rfl dX7_mark_152 (fun H locs hw => ?_)
                        have hw : WD g A s H locs [bO a 7 fs, bI g (ad 24) 4 so, bI g (ad 25) 4 sz, bI g (ad 26) 96 (upd nu (24 * k + pn) (markV (so k) v)), bZ g (ad 27) 96 (upd isn (24 * k + pn) (if v = -1000000005 then 0 else 1))] := hw
                        refine lv_iconst (v := 1) hx hb dX7_mark_153 (by decide) ?_
                        exact s_iret cf hr hlk () (by rw [show D_mark1 so sz isn (nI k) (nI pn) v = upd isn (24 * k + pn) (if v = -1000000005 then 0 else 1) from (if_pos hok).trans (by rw [hclk, nI_clamp (by omega)]), show D_mark2 so sz nu (nI k) (nI pn) v = upd nu (24 * k + pn) (markV (so k) v) from (if_pos hok).trans (by rw [hclk, nI_clamp (by omega)])]; exact hw) (by unfold R_mark; rw [if_pos hok.1, hclk, if_neg (Int32.not_lt.mpr c16), if_pos (by have := hok.2.2.1; rw [hclk] at this; exact this), if_neg (by have := hok.2.2.2.1; rw [hclk] at this; exact this), if_neg (by have := hok.2.2.2.2; rw [hclk] at this; exact this)]) (Nat.le_of_ble_eq_true rfl) (Nat.le_of_ble_eq_true rfl) dX7_mark_154 hQ
                      · refine lv_iload_n hx hb dX7_mark_146 rfl (lv_at hl 3 rfl) ?_
                        refine lv_i2s (v := (v : Int32).toInt16.toInt32) hx hb dX7_mark_147 rfl ?_
                        refine lv_goto (tgt := 152) hx hb dX7_mark_148 (by decide) ?_
                        refine lv_topr (y := markV (so k) v) (by unfold markV; grind) ?_
                        refine s_iast (j := (24 * k + pn)) cf hw 3 rfl (ix24 k pn) (by omega) rfl dX7_mark_152 (fun H locs hw => ?_)
                        have hw : WD g A s H locs [bO a 7 fs, bI g (ad 24) 4 so, bI g (ad 25) 4 sz, bI g (ad 26) 96 (upd nu (24 * k + pn) (markV (so k) v)), bZ g (ad 27) 96 (upd isn (24 * k + pn) (if v = -1000000005 then 0 else 1))] := hw
                        refine lv_iconst (v := 1) hx hb dX7_mark_153 (by decide) ?_
                        exact s_iret cf hr hlk () (by rw [show D_mark1 so sz isn (nI k) (nI pn) v = upd isn (24 * k + pn) (if v = -1000000005 then 0 else 1) from (if_pos hok).trans (by rw [hclk, nI_clamp (by omega)]), show D_mark2 so sz nu (nI k) (nI pn) v = upd nu (24 * k + pn) (markV (so k) v) from (if_pos hok).trans (by rw [hclk, nI_clamp (by omega)])]; exact hw) (by unfold R_mark; rw [if_pos hok.1, hclk, if_neg (Int32.not_lt.mpr c16), if_pos (by have := hok.2.2.1; rw [hclk] at this; exact this), if_neg (by have := hok.2.2.2.1; rw [hclk] at this; exact this), if_neg (by have := hok.2.2.2.2; rw [hclk] at this; exact this)]) (Nat.le_of_ble_eq_true rfl) (Nat.le_of_ble_eq_true rfl) dX7_mark_154 hQ
                    · refine lv_iconst (v := 0) hx hb dX7_mark_133 (by decide) ?_
                      refine lv_goto (tgt := 152) hx hb dX7_mark_134 (by decide) ?_
                      refine lv_topr (y := markV (so k) v) (by unfold markV; grind) ?_
                      refine s_iast (j := (24 * k + pn)) cf hw 3 rfl (ix24 k pn) (by omega) rfl dX7_mark_152 (fun H locs hw => ?_)
                      have hw : WD g A s H locs [bO a 7 fs, bI g (ad 24) 4 so, bI g (ad 25) 4 sz, bI g (ad 26) 96 (upd nu (24 * k + pn) (markV (so k) v)), bZ g (ad 27) 96 (upd isn (24 * k + pn) (if v = -1000000005 then 0 else 1))] := hw
                      refine lv_iconst (v := 1) hx hb dX7_mark_153 (by decide) ?_
                      exact s_iret cf hr hlk () (by rw [show D_mark1 so sz isn (nI k) (nI pn) v = upd isn (24 * k + pn) (if v = -1000000005 then 0 else 1) from (if_pos hok).trans (by rw [hclk, nI_clamp (by omega)]), show D_mark2 so sz nu (nI k) (nI pn) v = upd nu (24 * k + pn) (markV (so k) v) from (if_pos hok).trans (by rw [hclk, nI_clamp (by omega)])]; exact hw) (by unfold R_mark; rw [if_pos hok.1, hclk, if_neg (Int32.not_lt.mpr c16), if_pos (by have := hok.2.2.1; rw [hclk] at this; exact this), if_neg (by have := hok.2.2.2.1; rw [hclk] at this; exact this), if_neg (by have := hok.2.2.2.2; rw [hclk] at this; exact this)]) (Nat.le_of_ble_eq_true rfl) (Nat.le_of_ble_eq_true rfl) dX7_mark_154 hQ
                · have c89 := b01_z c89
                  refine lv_ldc hx hb hown (hts _ q1049) dX7_mark_92 ?_
                  exact s_iret cf hr hlk () (by rw [show D_mark1 so sz isn (nI k) p_ v = isn from if_neg (by unfold okMark; rw [hclk]; grind), show D_mark2 so sz nu (nI k) p_ v = nu from if_neg (by unfold okMark; rw [hclk]; grind)]; exact hw) (by unfold R_mark; rw [if_pos c4, hclk, if_neg (Int32.not_lt.mpr c16), if_pos c37, if_neg (by grind), if_pos (by grind)]) (Nat.le_of_ble_eq_true rfl) (Nat.le_of_ble_eq_true rfl) dX7_mark_94 hQ
          · refine lv_ldc hx hb hown (hts _ q1117) dX7_mark_59 ?_
            exact s_iret cf hr hlk () (by rw [show D_mark1 so sz isn (nI k) p_ v = isn from if_neg (by unfold okMark; rw [hclk]; grind), show D_mark2 so sz nu (nI k) p_ v = nu from if_neg (by unfold okMark; rw [hclk]; grind)]; exact hw) (by unfold R_mark; rw [if_pos c4, hclk, if_neg (Int32.not_lt.mpr c16), if_pos c37, if_pos ⟨c50, c56⟩]) (Nat.le_of_ble_eq_true rfl) (Nat.le_of_ble_eq_true rfl) dX7_mark_61 hQ
      · have c37 := b01_z c37
        refine lv_ldcw hx hb hown (hts _ q1342) dX7_mark_40 ?_
        exact s_iret cf hr hlk () (by rw [show D_mark1 so sz isn (nI k) p_ v = isn from if_neg (by unfold okMark; rw [hclk]; grind), show D_mark2 so sz nu (nI k) p_ v = nu from if_neg (by unfold okMark; rw [hclk]; grind)]; exact hw) (by unfold R_mark; rw [if_pos c4, hclk, if_neg (Int32.not_lt.mpr c16), if_neg c37]) (Nat.le_of_ble_eq_true rfl) (Nat.le_of_ble_eq_true rfl) dX7_mark_43 hQ
    · refine lv_ldc hx hb hown (hts _ q1247) dX7_mark_19 ?_
      exact s_iret cf hr hlk () (by rw [show D_mark1 so sz isn (nI k) p_ v = isn from if_neg (by unfold okMark; rw [hclk]; grind), show D_mark2 so sz nu (nI k) p_ v = nu from if_neg (by unfold okMark; rw [hclk]; grind)]; exact hw) (by unfold R_mark; rw [if_pos c4, hclk, if_pos (Int32.not_le.mp c16)]) (Nat.le_of_ble_eq_true rfl) (Nat.le_of_ble_eq_true rfl) dX7_mark_21 hQ
  · have c4 := b01_z c4
    refine lv_ldc hx hb hown (hts _ q1049) dX7_mark_7 ?_
    exact s_iret cf hr hlk () (by rw [show D_mark1 so sz isn x p_ v = isn from if_neg (by grind), show D_mark2 so sz nu x p_ v = nu from if_neg (by grind)]; exact hw) (by unfold R_mark; rw [if_neg c4]) (Nat.le_of_ble_eq_true rfl) (Nat.le_of_ble_eq_true rfl) dX7_mark_9 hQ
