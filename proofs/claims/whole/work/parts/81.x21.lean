theorem st_len {i : Nat} (h : i < 4) : stLen.getD i 0 ≤ 6 := by
  have : ∀ k : Fin 4, stLen.getD k.val 0 ≤ 6 := by decide
  exact this ⟨i, h⟩
set_option maxRecDepth 100000 in
set_option maxHeartbeats 4000000 in
theorem j_coder {l : Launch} {g : GG} {i : Nat} (hi : i < 4) : Ct l g yJ0_coder_7d493 cJ0_coder_7d493 1 (Option.some Jvm.ClassFile.FieldType.byte) 0 0 0 [.ref (g.2.2 (10 + i))] [] (QI g (fun r (_ : Unit) => r = 0) (fun _ => [])) := by
  refine Ct.of (by decide) rfl ?_
  intro p e s m args below meth c A H locs ls Qf cf hr hlk hnm hQ hw hl
  have hx := cf.1
  have hb := cf.2.1
  have hml := cf.2.2.1
  have hown := cf.2.2.2.1
  have hts := cf.2.2.2.2
  have hw : WD g A s H locs [] := hw
  have hl : lv_has ls 1 [(0, .ref (g.2.2 (10 + i)))] := hl
  refine va_gets hx hb hw.2.2.2.2.2.2.2.2.2.2.2.2.1 hw.2.2.2.1 hown (hts _ q121) (fun _ h => h) dJ0_coder_7d493_0 ?_
  refine lv_if_eq (tgt := 13) hx hb dJ0_coder_7d493_3 (by decide) (fun c3 => ?_) (fun c3 => ?_)
  · exact absurd c3 (by decide)
  · refine lv_aload_n hx hb dJ0_coder_7d493_6 rfl (lv_at hl 0 rfl) ?_
    refine vk_getf hx hb (hw.2.2.2.2.2.2.2.2.2.2.2.2.2.2.1 i hi).2.1 hw.2.2.2.1 hown (hts _ q1395) (fun _ h => h) dJ0_coder_7d493_7 ?_
    refine lv_goto (tgt := 14) hx hb dJ0_coder_7d493_10 (by decide) ?_
    exact s_bret cf hr hlk () hw rfl rfl (Nat.le_of_ble_eq_true rfl) (Nat.le_of_ble_eq_true rfl) dJ0_coder_7d493_14 hQ
set_option maxRecDepth 100000 in
set_option maxHeartbeats 4000000 in
theorem j_lat {l : Launch} {g : GG} {i : Nat} (hi : i < 4) : Ct l g yJ0_isLatin1_aae02 cJ0_isLatin1_aae02 1 (Option.some Jvm.ClassFile.FieldType.boolean) 0 0 0 [.ref (g.2.2 (10 + i))] [] (QI g (fun r (_ : Unit) => r = 1) (fun _ => [])) := by
  refine Ct.of (by decide) rfl ?_
  intro p e s m args below meth c A H locs ls Qf cf hr hlk hnm hQ hw hl
  have hx := cf.1
  have hb := cf.2.1
  have hml := cf.2.2.1
  have hown := cf.2.2.2.1
  have hts := cf.2.2.2.2
  have hw : WD g A s H locs [] := hw
  have hl : lv_has ls 1 [(0, .ref (g.2.2 (10 + i)))] := hl
  refine va_gets hx hb hw.2.2.2.2.2.2.2.2.2.2.2.2.1 hw.2.2.2.1 hown (hts _ q121) (fun _ h => h) dJ0_isLatin1_aae02_0 ?_
  refine lv_if_eq (tgt := 17) hx hb dJ0_isLatin1_aae02_3 (by decide) (fun c3 => ?_) (fun c3 => ?_)
  · exact absurd c3 (by decide)
  · refine lv_aload_n hx hb dJ0_isLatin1_aae02_6 rfl (lv_at hl 0 rfl) ?_
    refine vk_getf hx hb (hw.2.2.2.2.2.2.2.2.2.2.2.2.2.2.1 i hi).2.1 hw.2.2.2.1 hown (hts _ q1395) (fun _ h => h) dJ0_isLatin1_aae02_7 ?_
    refine lv_if_ne (tgt := 17) hx hb dJ0_isLatin1_aae02_10 (by decide) (fun c10 => ?_) (fun c10 => ?_)
    · exact absurd c10 (by decide)
    · refine lv_iconst (v := 1) hx hb dJ0_isLatin1_aae02_13 (by decide) ?_
      refine lv_goto (tgt := 18) hx hb dJ0_isLatin1_aae02_14 (by decide) ?_
      exact s_zret cf hr hlk () hw rfl rfl (Nat.le_of_ble_eq_true rfl) (Nat.le_of_ble_eq_true rfl) dJ0_isLatin1_aae02_18 hQ
set_option maxRecDepth 100000 in
set_option maxHeartbeats 4000000 in
theorem j_len {l : Launch} {g : GG} {i : Nat} (hi : i < 4) : Ct l g yJ0_length_8abf5 cJ0_length_8abf5 1 (Option.some Jvm.ClassFile.FieldType.int) 1 0 0 [.ref (g.2.2 (10 + i))] [] (QI g (fun r (_ : Unit) => r = nI (stLen.getD i 0)) (fun _ => [])) := by
  refine Ct.of (by decide) rfl ?_
  intro p e s m args below meth c A H locs ls Qf cf hr hlk hnm hQ hw hl
  have hx := cf.1
  have hb := cf.2.1
  have hml := cf.2.2.1
  have hown := cf.2.2.2.1
  have hts := cf.2.2.2.2
  have hw : WD g A s H locs [] := hw
  have hl : lv_has ls 1 [(0, .ref (g.2.2 (10 + i)))] := hl
  refine lv_aload_n hx hb dJ0_length_8abf5_0 rfl (lv_at hl 0 rfl) ?_
  refine vk_getf hx hb (hw.2.2.2.2.2.2.2.2.2.2.2.2.2.2.1 i hi).2.2.1 hw.2.2.2.1 hown (hts _ q1394) (fun _ h => h) dJ0_length_8abf5_1 ?_
  refine lv_topv (y := .ref (g.2.2 (20 + i))) rfl ?_
  refine va_tlen hx hb (hw.2.2.2.2.2.2.2.2.2.2.2.2.2.2.1 i hi).2.2.2 hw.2.2.2.1 (v := nI (stLen.getD i 0)) rfl dJ0_length_8abf5_4 ?_
  refine lv_aload_n hx hb dJ0_length_8abf5_5 rfl (lv_at hl 0 rfl) ?_
  refine s_calli (runV cf (j_coder (i := i) hi) hw [] (by decide) rfl km_J0_coder_7d493 ki_J0_coder_7d493 q117 (vk_recv hw.2.2.2.2.2.2.2.2.2.2.2.2.2.2 (i := i) (by omega) hw.2.2.2.1) rfl rfl hl.1 rfl dJ0_length_8abf5_6) hw [] (by decide) rfl (fun _ => rfl) (fun r_3 u_1 H locs hp_2 hw => ?_)
  have hw : WD g A s H locs [] := hw
  subst hp_2
  refine lv_ishr hx hb dJ0_length_8abf5_9 ?_
  exact s_iret cf hr hlk () hw (by have : ∀ k : Fin 4, nI (stLen.getD k.val 0) >>> ((0 : Int32) &&& 31) = nI (stLen.getD k.val 0) := (by decide +kernel); exact this ⟨i, hi⟩) (Nat.le_of_ble_eq_true rfl) (Nat.le_of_ble_eq_true rfl) dJ0_length_8abf5_10 hQ
set_option maxRecDepth 100000 in
set_option maxHeartbeats 4000000 in
theorem j_can {l : Launch} {g : GG} (c_ : Int32) (hc : isLt c_) : Ct l g yJ1_canEncode_9a6ad cJ1_canEncode_9a6ad 1 (Option.some Jvm.ClassFile.FieldType.boolean) 0 0 0 [.int c_] [] (QI g (fun r (_ : Unit) => r = 1) (fun _ => [])) := by
  refine Ct.of (by decide) rfl ?_
  intro p e s m args below meth c A H locs ls Qf cf hr hlk hnm hQ hw hl
  have hx := cf.1
  have hb := cf.2.1
  have hml := cf.2.2.1
  have hown := cf.2.2.2.1
  have hts := cf.2.2.2.2
  have hw : WD g A s H locs [] := hw
  have hl : lv_has ls 1 [(0, .int c_)] := hl
  have hc2 := (i2b_lt hc).2
  refine lv_iload_n hx hb dJ1_canEncode_9a6ad_0 rfl (lv_at hl 0 rfl) ?_
  refine lv_if_lt (tgt := 15) hx hb dJ1_canEncode_9a6ad_1 (by decide) (fun c1 => ?_) (fun c1 => ?_)
  · exact absurd hc2.1 (Int32.not_le.mpr c1)
  · refine lv_iload_n hx hb dJ1_canEncode_9a6ad_4 rfl (lv_at hl 0 rfl) ?_
    refine lv_sipush (v := 255) hx hb dJ1_canEncode_9a6ad_5 (by decide) ?_
    refine lv_icmp_gt (tgt := 15) hx hb dJ1_canEncode_9a6ad_8 (by decide) (fun c8 => ?_) (fun c8 => ?_)
    · exact absurd hc2.2 (Int32.not_le.mpr c8)
    · refine lv_iconst (v := 1) hx hb dJ1_canEncode_9a6ad_11 (by decide) ?_
      refine lv_goto (tgt := 16) hx hb dJ1_canEncode_9a6ad_12 (by decide) ?_
      exact s_zret cf hr hlk () hw rfl rfl (Nat.le_of_ble_eq_true rfl) (Nat.le_of_ble_eq_true rfl) dJ1_canEncode_9a6ad_16 hQ
set_option maxRecDepth 100000 in
set_option maxHeartbeats 4000000 in
theorem j_ixc {l : Launch} {g : GG} {i : Nat} (hi : i < 4) (c_ : Int32) (hc : isLt c_) : Ct l g yJ1_indexOfChar_4cfef cJ1_indexOfChar_4cfef 6 (Option.some Jvm.ClassFile.FieldType.int) 0 0 0 [.ref (g.2.2 (20 + i)), .int c_, .int 0, .int (nI (stLen.getD i 0))] [] (QI g (fun r (_ : Unit) => r = idxF i c_) (fun _ => [])) := by
  refine Ct.of (by decide) rfl ?_
  intro p e s m args below meth c A H locs ls Qf cf hr hlk hnm hQ hw hl
  have hx := cf.1
  have hb := cf.2.1
  have hml := cf.2.2.1
  have hown := cf.2.2.2.1
  have hts := cf.2.2.2.2
  have hw : WD g A s H locs [] := hw
  have hl : lv_has ls 6 [(0, .ref (g.2.2 (20 + i))), (1, .int c_), (2, .int 0), (3, .int (nI (stLen.getD i 0)))] := hl
  have hlen := st_len hi
  refine lv_iload_n hx hb dJ1_indexOfChar_4cfef_0 rfl (lv_at hl 1 rfl) ?_
  refine lv_i2b (v := (c_ : Int32).toInt8.toInt32) hx hb dJ1_indexOfChar_4cfef_1 rfl ?_
  refine lv_topr (y := c_) ((i2b_lt hc).1) ?_
  refine lv_istore (lv' := [(4, .int c_), (0, .ref (g.2.2 (20 + i))), (1, .int c_), (2, .int 0), (3, .int (nI (stLen.getD i 0)))]) hx hb dJ1_indexOfChar_4cfef_2 hl (by decide) rfl (fun ls hl => ?_)
  refine lv_iload_n hx hb dJ1_indexOfChar_4cfef_4 rfl (lv_at hl 3 rfl) ?_
  refine lv_istore (lv' := [(5, .int 0), (4, .int c_), (0, .ref (g.2.2 (20 + i))), (1, .int c_), (2, .int 0), (3, .int (nI (stLen.getD i 0)))]) hx hb dJ1_indexOfChar_4cfef_5 hl (by decide) rfl (fun ls hl => ?_)
  have L7 : ∀ (fu : Nat) (k : Nat), (k ≤ stLen.getD i 0) → (stLen.getD i 0 < k + fu) → (lst (fun j => (stByt.getD i []).getD j 0 = c_) (stLen.getD i 0) 0 = lst (fun j => (stByt.getD i []).getD j 0 = c_) (stLen.getD i 0 - k) k) → ∀ (H : Heap) (locs : List Loc) (ls : Array Slot), WD g A s H locs [] → lv_has ls 6 [(0, .ref (g.2.2 (20 + i))), (3, .int (nI (stLen.getD i 0))), (4, .int c_), (5, .int (nI k))] → W p l e (rmx 0 0 0) s m args below meth c H locs 0 0 Qf (F0 m 7 ls []) := by
    intro fu
    induction fu with
    | zero => intro k hk hfu hls; exfalso; omega
    | succ fu ih7 =>
      intro k hk hfu hls H locs ls hw hl
      refine lv_iload hx hb dJ1_indexOfChar_4cfef_7 (lv_at hl 3 rfl) ?_
      refine lv_iload_n hx hb dJ1_indexOfChar_4cfef_9 rfl (lv_at hl 1 rfl) ?_
      refine lv_icmp_ge (tgt := 31) hx hb dJ1_indexOfChar_4cfef_10 (by decide) (fun c10 => ?_) (fun c10 => ?_)
      · have hk2 : stLen.getD i 0 = k := by have := nI_le_of (by omega) c10 (by omega); omega
        refine lv_iconst (v := (-1)) hx hb dJ1_indexOfChar_4cfef_31 (by decide) ?_
        exact s_iret cf hr hlk () hw (by have hK : lst (fun j => (stByt.getD i []).getD j 0 = c_) (stLen.getD i 0) 0 = stLen.getD i 0 := hls.trans ((lst_end (by omega)).trans hk2.symm); unfold idxF; rw [if_pos hK]) (Nat.le_of_ble_eq_true rfl) (Nat.le_of_ble_eq_true rfl) dJ1_indexOfChar_4cfef_32 hQ
      · have hlt : k < stLen.getD i 0 := nI_lt_of (by omega) c10 (by omega)
        refine lv_aload_n hx hb dJ1_indexOfChar_4cfef_13 rfl (lv_at hl 0 rfl) ?_
        refine lv_iload hx hb dJ1_indexOfChar_4cfef_14 (lv_at hl 3 rfl) ?_
        refine va_tb hx hb (hw.2.2.2.2.2.2.2.2.2.2.2.2.2.2.1 i hi).2.2.2 hw.2.2.2.1 (i := nI k) (v := .int ((stByt.getD i []).getD k 0)) (vp_in_nI (by omega) (by have := st_len hi; omega)) (by rw [nI_clamp (by have := st_len hi; omega)]) dJ1_indexOfChar_4cfef_16 ?_
        refine lv_iload hx hb dJ1_indexOfChar_4cfef_17 (lv_at hl 2 rfl) ?_
        refine lv_icmp_ne (tgt := 25) hx hb dJ1_indexOfChar_4cfef_19 (by decide) (fun c19 => ?_) (fun c19 => ?_)
        · refine lv_iinc (v := nI (k + 1)) (lv' := [(5, .int (nI (k + 1))), (0, .ref (g.2.2 (20 + i))), (3, .int (nI (stLen.getD i 0))), (4, .int c_)]) hx hb dJ1_indexOfChar_4cfef_25 hl (k := 3) rfl (nI_1 k) (by decide) rfl (fun ls hl => ?_)
          refine lv_goto (tgt := 7) hx hb dJ1_indexOfChar_4cfef_28 (by decide) ?_
          exact ih7 (k + 1) (by omega) (by omega) (hls.trans (lst_step hlt c19)) _ _ _ hw (lv_sub hl [1, 2, 3, 0] rfl)
        · refine lv_iload hx hb dJ1_indexOfChar_4cfef_22 (lv_at hl 3 rfl) ?_
          exact s_iret cf hr hlk () hw (by have hK : lst (fun j => (stByt.getD i []).getD j 0 = c_) (stLen.getD i 0) 0 = k := hls.trans (lst_stop hlt c19); unfold idxF; rw [hK, if_neg (by omega)]) (Nat.le_of_ble_eq_true rfl) (Nat.le_of_ble_eq_true rfl) dJ1_indexOfChar_4cfef_24 hQ
  exact L7 (stLen.getD i 0 + 1) 0 (by omega) (by omega) rfl _ _ _ hw (lv_sub hl [2, 5, 1, 0] rfl)
set_option maxRecDepth 100000 in
set_option maxHeartbeats 4000000 in
theorem j_ix1 {l : Launch} {g : GG} {i : Nat} (hi : i < 4) (c_ : Int32) (hc : isLt c_) : Ct l g yJ1_indexOf_4cfef cJ1_indexOf_4cfef 4 (Option.some Jvm.ClassFile.FieldType.int) 1 0 0 [.ref (g.2.2 (20 + i)), .int c_, .int 0, .int (nI (stLen.getD i 0))] [] (QI g (fun r (_ : Unit) => r = idxF i c_) (fun _ => [])) := by
  refine Ct.of (by decide) rfl ?_
  intro p e s m args below meth c A H locs ls Qf cf hr hlk hnm hQ hw hl
  have hx := cf.1
  have hb := cf.2.1
  have hml := cf.2.2.1
  have hown := cf.2.2.2.1
  have hts := cf.2.2.2.2
  have hw : WD g A s H locs [] := hw
  have hl : lv_has ls 4 [(0, .ref (g.2.2 (20 + i))), (1, .int c_), (2, .int 0), (3, .int (nI (stLen.getD i 0)))] := hl
  have hlp : 0 < stLen.getD i 0 := by have : ∀ k : Fin 4, 0 < stLen.getD k.val 0 := (by decide); exact this ⟨i, hi⟩
  have hlen := st_len hi
  refine lv_iload_n hx hb dJ1_indexOf_4cfef_0 rfl (lv_at hl 1 rfl) ?_
  refine s_calli (runS cf (j_can c_ hc) hw [] (by decide) rfl km_J1_canEncode_9a6ad ks_J1_canEncode_9a6ad q699 rfl rfl hl.1 rfl dJ1_indexOf_4cfef_1) hw [] (by decide) rfl (fun _ => rfl) (fun r_3 u_1 H locs hp_2 hw => ?_)
  have hw : WD g A s H locs [] := hw
  subst hp_2
  refine lv_if_ne (tgt := 9) hx hb dJ1_indexOf_4cfef_4 (by decide) (fun c4 => ?_) (fun c4 => ?_)
  · refine lv_iload_n hx hb dJ1_indexOf_4cfef_9 rfl (lv_at hl 2 rfl) ?_
    refine lv_iconst (v := 0) hx hb dJ1_indexOf_4cfef_10 (by decide) ?_
    refine va_mmax hx hb (by rw [hml]; exact hl.1.symm) hown (hts _ q702) (hts _ ks_J9_max_7cf53) (hts _ km_J9_max_7cf53.1) (hts _ km_J9_max_7cf53.2.1) (Nat.le_of_ble_eq_true rfl) (Nat.le_of_ble_eq_true rfl) (Nat.le_of_ble_eq_true rfl) (Nat.le_of_ble_eq_true rfl) dJ1_indexOf_4cfef_11 ?_
    refine lv_topr (y := 0) (by decide) ?_
    refine lv_istore_n (lv' := [(2, .int 0), (0, .ref (g.2.2 (20 + i))), (1, .int c_), (3, .int (nI (stLen.getD i 0)))]) hx hb dJ1_indexOf_4cfef_14 rfl hl (by decide) rfl (fun ls hl => ?_)
    refine lv_iload_n hx hb dJ1_indexOf_4cfef_15 rfl (lv_at hl 3 rfl) ?_
    refine lv_aload_n hx hb dJ1_indexOf_4cfef_16 rfl (lv_at hl 1 rfl) ?_
    refine va_tlen hx hb (hw.2.2.2.2.2.2.2.2.2.2.2.2.2.2.1 i hi).2.2.2 hw.2.2.2.1 (v := nI (stLen.getD i 0)) rfl dJ1_indexOf_4cfef_17 ?_
    refine va_mmin hx hb (by rw [hml]; exact hl.1.symm) hown (hts _ q703) (hts _ ks_J9_min_7cf53) (hts _ km_J9_min_7cf53.1) (hts _ km_J9_min_7cf53.2.1) (Nat.le_of_ble_eq_true rfl) (Nat.le_of_ble_eq_true rfl) (Nat.le_of_ble_eq_true rfl) (Nat.le_of_ble_eq_true rfl) dJ1_indexOf_4cfef_18 ?_
    refine lv_topr (y := nI (stLen.getD i 0)) (ite_self _) ?_
    refine lv_istore_n (lv' := [(3, .int (nI (stLen.getD i 0))), (2, .int 0), (0, .ref (g.2.2 (20 + i))), (1, .int c_)]) hx hb dJ1_indexOf_4cfef_21 rfl hl (by decide) rfl (fun ls hl => ?_)
    refine lv_iload_n hx hb dJ1_indexOf_4cfef_22 rfl (lv_at hl 1 rfl) ?_
    refine lv_iload_n hx hb dJ1_indexOf_4cfef_23 rfl (lv_at hl 0 rfl) ?_
    refine lv_icmp_lt (tgt := 29) hx hb dJ1_indexOf_4cfef_24 (by decide) (fun c24 => ?_) (fun c24 => ?_)
    · refine lv_aload_n hx hb dJ1_indexOf_4cfef_29 rfl (lv_at hl 2 rfl) ?_
      refine lv_iload_n hx hb dJ1_indexOf_4cfef_30 rfl (lv_at hl 3 rfl) ?_
      refine lv_iload_n hx hb dJ1_indexOf_4cfef_31 rfl (lv_at hl 1 rfl) ?_
      refine lv_iload_n hx hb dJ1_indexOf_4cfef_32 rfl (lv_at hl 0 rfl) ?_
      refine s_calli (runS cf (j_ixc (i := i) hi c_ hc) hw [] (by decide) rfl km_J1_indexOfChar_4cfef ks_J1_indexOfChar_4cfef q704 rfl rfl hl.1 rfl dJ1_indexOf_4cfef_33) hw [] (by decide) rfl (fun _ => rfl) (fun r_6 u_4 H locs hp_5 hw => ?_)
      have hw : WD g A s H locs [] := hw
      subst hp_5
      exact s_iret cf hr hlk () hw rfl (Nat.le_of_ble_eq_true rfl) (Nat.le_of_ble_eq_true rfl) dJ1_indexOf_4cfef_36 hQ
    · exact absurd (nI_lt (a := 0) hlp (by omega)) c24
  · exact absurd c4 (by decide)
set_option maxRecDepth 100000 in
set_option maxHeartbeats 4000000 in
theorem j_ix2 {l : Launch} {g : GG} {i : Nat} (hi : i < 4) (c_ : Int32) (hc : isLt c_) : Ct l g yJ0_indexOf_7cf53 cJ0_indexOf_7cf53 3 (Option.some Jvm.ClassFile.FieldType.int) 2 0 0 [.ref (g.2.2 (10 + i)), .int c_, .int 0] [] (QI g (fun r (_ : Unit) => r = idxF i c_) (fun _ => [])) := by
  refine Ct.of (by decide) rfl ?_
  intro p e s m args below meth c A H locs ls Qf cf hr hlk hnm hQ hw hl
  have hx := cf.1
  have hb := cf.2.1
  have hml := cf.2.2.1
  have hown := cf.2.2.2.1
  have hts := cf.2.2.2.2
  have hw : WD g A s H locs [] := hw
  have hl : lv_has ls 3 [(0, .ref (g.2.2 (10 + i))), (1, .int c_), (2, .int 0)] := hl
  refine lv_aload_n hx hb dJ0_indexOf_7cf53_0 rfl (lv_at hl 0 rfl) ?_
  refine s_calli (runV cf (j_lat (i := i) hi) hw [] (by decide) rfl km_J0_isLatin1_aae02 ki_J0_isLatin1_aae02 q691 (vk_recv hw.2.2.2.2.2.2.2.2.2.2.2.2.2.2 (i := i) (by omega) hw.2.2.2.1) rfl rfl hl.1 rfl dJ0_indexOf_7cf53_1) hw [] (by decide) rfl (fun _ => rfl) (fun r_3 u_1 H locs hp_2 hw => ?_)
  have hw : WD g A s H locs [] := hw
  subst hp_2
  refine lv_if_eq (tgt := 23) hx hb dJ0_indexOf_7cf53_4 (by decide) (fun c4 => ?_) (fun c4 => ?_)
  · exact absurd c4 (by decide)
  · refine lv_aload_n hx hb dJ0_indexOf_7cf53_7 rfl (lv_at hl 0 rfl) ?_
    refine vk_getf hx hb (hw.2.2.2.2.2.2.2.2.2.2.2.2.2.2.1 i hi).2.2.1 hw.2.2.2.1 hown (hts _ q1394) (fun _ h => h) dJ0_indexOf_7cf53_8 ?_
    refine lv_topv (y := .ref (g.2.2 (20 + i))) rfl ?_
    refine lv_iload_n hx hb dJ0_indexOf_7cf53_11 rfl (lv_at hl 1 rfl) ?_
    refine lv_iload_n hx hb dJ0_indexOf_7cf53_12 rfl (lv_at hl 2 rfl) ?_
    refine lv_aload_n hx hb dJ0_indexOf_7cf53_13 rfl (lv_at hl 0 rfl) ?_
    refine s_calli (runV cf (j_len (i := i) hi) hw [] (by decide) rfl km_J0_length_8abf5 ki_J0_length_8abf5 q695 (vk_recv hw.2.2.2.2.2.2.2.2.2.2.2.2.2.2 (i := i) (by omega) hw.2.2.2.1) rfl rfl hl.1 rfl dJ0_indexOf_7cf53_14) hw [] (by decide) rfl (fun _ => rfl) (fun r_6 u_4 H locs hp_5 hw => ?_)
    have hw : WD g A s H locs [] := hw
    subst hp_5
    refine s_calli (runS cf (j_ix1 (i := i) hi c_ hc) hw [] (by decide) rfl km_J1_indexOf_4cfef ks_J1_indexOf_4cfef q696 rfl rfl hl.1 rfl dJ0_indexOf_7cf53_17) hw [] (by decide) rfl (fun _ => rfl) (fun r_9 u_7 H locs hp_8 hw => ?_)
    have hw : WD g A s H locs [] := hw
    subst hp_8
    refine lv_goto (tgt := 36) hx hb dJ0_indexOf_7cf53_20 (by decide) ?_
    exact s_iret cf hr hlk () hw rfl (Nat.le_of_ble_eq_true rfl) (Nat.le_of_ble_eq_true rfl) dJ0_indexOf_7cf53_36 hQ
set_option maxRecDepth 100000 in
set_option maxHeartbeats 4000000 in
theorem j_ix {l : Launch} {g : GG} {i : Nat} (hi : i < 4) (c_ : Int32) (hc : isLt c_) : Ct l g yJ0_indexOf_0f7a4 cJ0_indexOf_0f7a4 2 (Option.some Jvm.ClassFile.FieldType.int) 3 0 0 [.ref (g.2.2 (10 + i)), .int c_] [] (QI g (fun r (_ : Unit) => r = idxF i c_) (fun _ => [])) := by
  refine Ct.of (by decide) rfl ?_
  intro p e s m args below meth c A H locs ls Qf cf hr hlk hnm hQ hw hl
  have hx := cf.1
  have hb := cf.2.1
  have hml := cf.2.2.1
  have hown := cf.2.2.2.1
  have hts := cf.2.2.2.2
  have hw : WD g A s H locs [] := hw
  have hl : lv_has ls 2 [(0, .ref (g.2.2 (10 + i))), (1, .int c_)] := hl
  refine lv_aload_n hx hb dJ0_indexOf_0f7a4_0 rfl (lv_at hl 0 rfl) ?_
  refine lv_iload_n hx hb dJ0_indexOf_0f7a4_1 rfl (lv_at hl 1 rfl) ?_
  refine lv_iconst (v := 0) hx hb dJ0_indexOf_0f7a4_2 (by decide) ?_
  refine s_calli (runV cf (j_ix2 (i := i) hi c_ hc) hw [] (by decide) rfl km_J0_indexOf_7cf53 ki_J0_indexOf_7cf53 q687 (vk_recv hw.2.2.2.2.2.2.2.2.2.2.2.2.2.2 (i := i) (by omega) hw.2.2.2.1) rfl rfl hl.1 rfl dJ0_indexOf_0f7a4_3) hw [] (by decide) rfl (fun _ => rfl) (fun r_3 u_1 H locs hp_2 hw => ?_)
  have hw : WD g A s H locs [] := hw
  subst hp_2
  exact s_iret cf hr hlk () hw rfl (Nat.le_of_ble_eq_true rfl) (Nat.le_of_ble_eq_true rfl) dJ0_indexOf_0f7a4_6 hQ
