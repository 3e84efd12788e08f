set_option maxRecDepth 100000 in
set_option maxHeartbeats 4000000 in
theorem m_above {l : Launch} {g : GG} (k : Int32) : Ct l g yX7_above cX7_above 1 (Option.some Jvm.ClassFile.FieldType.int) 0 0 0 [.int k] [] (QI g (fun r (_ : Unit) => r = aboveF k) (fun _ => [])) := by
  refine Ct.of (by decide) rfl ?_
  intro p e s m args below meth c A H locs ls Qf cf hr hlk hnm hQ hw hl
  have hx := cf.1
  have hb := cf.2.1
  have hml := cf.2.2.1
  have hown := cf.2.2.2.1
  have hts := cf.2.2.2.2
  have hw : WD g A s H locs [] := hw
  have hl : lv_has ls 1 [(0, .int k)] := hl
  refine lv_iload_n hx hb dX7_above_0 rfl (lv_at hl 0 rfl) ?_
  refine lv_iconst (v := 3) hx hb dX7_above_1 (by decide) ?_
  refine lv_icmp_ne (tgt := 9) hx hb dX7_above_2 (by decide) (fun c2 => ?_) (fun c2 => ?_)
  · refine lv_iload_n hx hb dX7_above_9 rfl (lv_at hl 0 rfl) ?_
    refine lv_iconst (v := 4) hx hb dX7_above_10 (by decide) ?_
    refine lv_icmp_ne (tgt := 18) hx hb dX7_above_11 (by decide) (fun c11 => ?_) (fun c11 => ?_)
    · refine lv_iconst (v := 0) hx hb dX7_above_18 (by decide) ?_
      exact s_iret cf hr hlk () hw (by unfold aboveF; grind) (Nat.le_of_ble_eq_true rfl) (Nat.le_of_ble_eq_true rfl) dX7_above_19 hQ
    · refine lv_iconst (v := 2) hx hb dX7_above_14 (by decide) ?_
      refine lv_goto (tgt := 19) hx hb dX7_above_15 (by decide) ?_
      exact s_iret cf hr hlk () hw (by unfold aboveF; grind) (Nat.le_of_ble_eq_true rfl) (Nat.le_of_ble_eq_true rfl) dX7_above_19 hQ
  · refine lv_iconst (v := 1) hx hb dX7_above_5 (by decide) ?_
    refine lv_goto (tgt := 19) hx hb dX7_above_6 (by decide) ?_
    exact s_iret cf hr hlk () hw (by unfold aboveF; grind) (Nat.le_of_ble_eq_true rfl) (Nat.le_of_ble_eq_true rfl) dX7_above_19 hQ
set_option maxRecDepth 100000 in
set_option maxHeartbeats 4000000 in
theorem m_isUnder {l : Launch} {g : GG} (k o : Int32) : Ct l g yX7_isUnder cX7_isUnder 2 (Option.some Jvm.ClassFile.FieldType.boolean) 1 0 0 [.int k, .int o] [] (QI g (fun r (_ : Unit) => r = if underF k o then 1 else 0) (fun _ => [])) := by
  refine Ct.of (by decide) rfl ?_
  intro p e s m args below meth c A H locs ls Qf cf hr hlk hnm hQ hw hl
  have hx := cf.1
  have hb := cf.2.1
  have hml := cf.2.2.1
  have hown := cf.2.2.2.1
  have hts := cf.2.2.2.2
  have hw : WD g A s H locs [] := hw
  have hl : lv_has ls 2 [(0, .int k), (1, .int o)] := hl
  refine lv_iload_n hx hb dX7_isUnder_0 rfl (lv_at hl 1 rfl) ?_
  refine lv_if_eq (tgt := 17) hx hb dX7_isUnder_1 (by decide) (fun c1 => ?_) (fun c1 => ?_)
  · refine lv_iconst (v := 1) hx hb dX7_isUnder_17 (by decide) ?_
    refine lv_goto (tgt := 22) hx hb dX7_isUnder_18 (by decide) ?_
    exact s_zret cf hr hlk () hw (by unfold underF; grind) rfl (Nat.le_of_ble_eq_true rfl) (Nat.le_of_ble_eq_true rfl) dX7_isUnder_22 hQ
  · refine lv_iload_n hx hb dX7_isUnder_4 rfl (lv_at hl 0 rfl) ?_
    refine lv_iload_n hx hb dX7_isUnder_5 rfl (lv_at hl 1 rfl) ?_
    refine lv_icmp_eq (tgt := 17) hx hb dX7_isUnder_6 (by decide) (fun c6 => ?_) (fun c6 => ?_)
    · refine lv_iconst (v := 1) hx hb dX7_isUnder_17 (by decide) ?_
      refine lv_goto (tgt := 22) hx hb dX7_isUnder_18 (by decide) ?_
      exact s_zret cf hr hlk () hw (by unfold underF; grind) rfl (Nat.le_of_ble_eq_true rfl) (Nat.le_of_ble_eq_true rfl) dX7_isUnder_22 hQ
    · refine lv_iload_n hx hb dX7_isUnder_9 rfl (lv_at hl 0 rfl) ?_
      refine s_calli (runS cf (m_above k) hw [] (by decide) rfl km_X7_above ks_X7_above q1114 rfl rfl hl.1 rfl dX7_isUnder_10) hw [] (by decide) rfl (fun _ => rfl) (fun r_3 u_1 H locs hp_2 hw => ?_)
      have hw : WD g A s H locs [] := hw
      subst hp_2
      refine lv_iload_n hx hb dX7_isUnder_13 rfl (lv_at hl 1 rfl) ?_
      refine lv_icmp_ne (tgt := 21) hx hb dX7_isUnder_14 (by decide) (fun c14 => ?_) (fun c14 => ?_)
      · refine lv_iconst (v := 0) hx hb dX7_isUnder_21 (by decide) ?_
        exact s_zret cf hr hlk () hw (by unfold underF; grind) rfl (Nat.le_of_ble_eq_true rfl) (Nat.le_of_ble_eq_true rfl) dX7_isUnder_22 hQ
      · refine lv_iconst (v := 1) hx hb dX7_isUnder_17 (by decide) ?_
        refine lv_goto (tgt := 22) hx hb dX7_isUnder_18 (by decide) ?_
        exact s_zret cf hr hlk () hw (by unfold underF; grind) rfl (Nat.le_of_ble_eq_true rfl) (Nat.le_of_ble_eq_true rfl) dX7_isUnder_22 hQ
set_option maxRecDepth 100000 in
set_option maxHeartbeats 4000000 in
theorem m_counts {l : Launch} {g : GG} {a : Nat} {ad : Nat → Nat} {fs : List Value} (hf : MF ad fs) {d kf : DD} (key : Int32) (nt : Nat) (hnt : d 9 = nI nt) (hnt14 : nt ≤ 14) : Ct l g yX7_counts cX7_counts 3 (Option.some Jvm.ClassFile.FieldType.int) 0 0 0 [.ref a, .int key] [bO a 7 fs, bI g (ad 0) 60 d, bI g (ad 6) 14 kf] (QI g (fun r (_ : Unit) => r = cntI (cntF kf key nt)) (fun _ => [bO a 7 fs, bI g (ad 0) 60 d, bI g (ad 6) 14 kf])) := by
  refine Ct.of (by decide) rfl ?_
  intro p e s m args below meth c A H locs ls Qf cf hr hlk hnm hQ hw hl
  have hx := cf.1
  have hb := cf.2.1
  have hml := cf.2.2.1
  have hown := cf.2.2.2.1
  have hts := cf.2.2.2.2
  have hw : WD g A s H locs [bO a 7 fs, bI g (ad 0) 60 d, bI g (ad 6) 14 kf] := hw
  have hl : lv_has ls 3 [(0, .ref a), (1, .int key)] := hl
  refine lv_aload_n hx hb dX7_counts_0 rfl (lv_at hl 0 rfl) ?_
  refine s_get (v := .ref (ad 0)) fb7 cf hw 0 rfl 0 rfl q921 (hf.2 0 rfl) dX7_counts_1 ?_
  refine lv_bipush (v := 9) hx hb dX7_counts_4 (by decide) ?_
  refine s_iald (j := 9) cf hw 1 rfl (rfl) (by decide) rfl dX7_counts_6 ?_
  refine lv_topr (y := nI nt) (hnt) ?_
  refine lv_iconst (v := 1) hx hb dX7_counts_7 (by decide) ?_
  refine lv_isub hx hb dX7_counts_8 ?_
  refine lv_istore_n (lv' := [(2, .int ((nI nt) - 1)), (0, .ref a), (1, .int key)]) hx hb dX7_counts_9 rfl hl (by decide) rfl (fun ls hl => ?_)
  have L10 : ∀ (fu : Nat) (i : Nat), (i ≤ nt) → (i < fu) → (cntF kf key i = cntF kf key nt) → ∀ (H : Heap) (locs : List Loc) (ls : Array Slot), WD g A s H locs [bO a 7 fs, bI g (ad 0) 60 d, bI g (ad 6) 14 kf] → lv_has ls 3 [(0, .ref a), (1, .int key), (2, .int (nI i - 1))] → W p l e (rmx 0 0 0) s m args below meth c H locs 0 0 Qf (F0 m 10 ls []) := by
    intro fu
    induction fu with
    | zero => intro i hi hfu hc; exfalso; omega
    | succ fu ih10 =>
      intro i hi hfu hc H locs ls hw hl
      refine lv_iload_n hx hb dX7_counts_10 rfl (lv_at hl 2 rfl) ?_
      refine lv_if_lt (tgt := 32) hx hb dX7_counts_11 (by decide) (fun c11 => ?_) (fun c11 => ?_)
      · have hi0 : i = 0 := nI_m1_neg (by omega) c11
        subst hi0
        refine lv_iconst (v := (-1)) hx hb dX7_counts_32 (by decide) ?_
        exact s_iret cf hr hlk () hw (by rw [← hc]; rfl) (Nat.le_of_ble_eq_true rfl) (Nat.le_of_ble_eq_true rfl) dX7_counts_33 hQ
      · obtain ⟨j, hj⟩ := nI_m1_nn c11
        subst hj
        have hl : lv_has ls 3 [(0, .ref a), (1, .int key), (2, .int (nI j))] := by rw [← nI_pred j]; exact hl
        refine lv_aload_n hx hb dX7_counts_14 rfl (lv_at hl 0 rfl) ?_
        refine s_get (v := .ref (ad 6)) fb7 cf hw 0 rfl 6 rfl q927 (hf.2 6 rfl) dX7_counts_15 ?_
        refine lv_iload_n hx hb dX7_counts_18 rfl (lv_at hl 2 rfl) ?_
        refine s_iald (j := j) cf hw 2 rfl (rfl) (by omega) rfl dX7_counts_19 ?_
        refine lv_iload_n hx hb dX7_counts_20 rfl (lv_at hl 1 rfl) ?_
        refine lv_icmp_ne (tgt := 26) hx hb dX7_counts_21 (by decide) (fun c21 => ?_) (fun c21 => ?_)
        · refine lv_iinc (v := nI j - 1) (lv' := [(2, .int (nI j - 1)), (0, .ref a), (1, .int key)]) hx hb dX7_counts_26 hl (k := 2) rfl (add_m1 _) (by decide) rfl (fun ls hl => ?_)
          refine lv_goto (tgt := 10) hx hb dX7_counts_29 (by decide) ?_
          exact ih10 j (by omega) (by omega) (by rw [← hc, show cntF kf key (j + 1) = if kf j = key then some j else cntF kf key j from rfl, if_neg c21]) _ _ _ hw (lv_sub hl [1, 2, 0] rfl)
        · refine lv_iload_n hx hb dX7_counts_24 rfl (lv_at hl 2 rfl) ?_
          exact s_iret cf hr hlk () hw (by rw [← hc]; unfold cntF; rw [if_pos c21]; rfl) (Nat.le_of_ble_eq_true rfl) (Nat.le_of_ble_eq_true rfl) dX7_counts_25 hQ
  exact L10 15 nt (by omega) (by omega) rfl _ _ _ hw (lv_sub hl [1, 2, 0] rfl)
set_option maxRecDepth 100000 in
set_option maxHeartbeats 4000000 in
theorem m_done {l : Launch} {g : GG} (sg v w : Int32) : Ct l g yX7_done cX7_done 3 (Option.some Jvm.ClassFile.FieldType.int) 0 0 0 [.int sg, .int v, .int w] [] (QI g (fun r (_ : Unit) => r = doneF sg v w) (fun _ => [])) := by
  refine Ct.of (by decide) rfl ?_
  intro p e s m args below meth c A H locs ls Qf cf hr hlk hnm hQ hw hl
  have hx := cf.1
  have hb := cf.2.1
  have hml := cf.2.2.1
  have hown := cf.2.2.2.1
  have hts := cf.2.2.2.2
  have hw : WD g A s H locs [] := hw
  have hl : lv_has ls 3 [(0, .int sg), (1, .int v), (2, .int w)] := hl
  refine lv_iload_n hx hb dX7_done_0 rfl (lv_at hl 0 rfl) ?_
  by_cases t1_38 : sg = 38
  · refine lv_tableIn (tgt := 184) (off := 183) hx hb dX7_done_1 (by rw [t1_38]; decide) (by rw [t1_38]; decide) (by rw [t1_38]; decide) (by decide) ?_
    refine lv_iload_n hx hb dX7_done_184 rfl (lv_at hl 1 rfl) ?_
    refine lv_if_eq (tgt := 196) hx hb dX7_done_185 (by decide) (fun c185 => ?_) (fun c185 => ?_)
    · refine lv_iconst (v := 0) hx hb dX7_done_196 (by decide) ?_
      exact s_iret cf hr hlk () hw (by unfold doneF; grind) (Nat.le_of_ble_eq_true rfl) (Nat.le_of_ble_eq_true rfl) dX7_done_197 hQ
    · refine lv_iload_n hx hb dX7_done_188 rfl (lv_at hl 2 rfl) ?_
      refine lv_if_eq (tgt := 196) hx hb dX7_done_189 (by decide) (fun c189 => ?_) (fun c189 => ?_)
      · refine lv_iconst (v := 0) hx hb dX7_done_196 (by decide) ?_
        exact s_iret cf hr hlk () hw (by unfold doneF; grind) (Nat.le_of_ble_eq_true rfl) (Nat.le_of_ble_eq_true rfl) dX7_done_197 hQ
      · refine lv_iconst (v := 1) hx hb dX7_done_192 (by decide) ?_
        refine lv_goto (tgt := 197) hx hb dX7_done_193 (by decide) ?_
        exact s_iret cf hr hlk () hw (by unfold doneF; grind) (Nat.le_of_ble_eq_true rfl) (Nat.le_of_ble_eq_true rfl) dX7_done_197 hQ
  by_cases t1_39 : sg = 39
  · refine lv_tableIn (tgt := 198) (off := 197) hx hb dX7_done_1 (by rw [t1_39]; decide) (by rw [t1_39]; decide) (by rw [t1_39]; decide) (by decide) ?_
    refine lv_iload_n hx hb dX7_done_198 rfl (lv_at hl 1 rfl) ?_
    refine lv_if_ne (tgt := 206) hx hb dX7_done_199 (by decide) (fun c199 => ?_) (fun c199 => ?_)
    · refine lv_iconst (v := 1) hx hb dX7_done_206 (by decide) ?_
      refine lv_goto (tgt := 211) hx hb dX7_done_207 (by decide) ?_
      exact s_iret cf hr hlk () hw (by unfold doneF; grind) (Nat.le_of_ble_eq_true rfl) (Nat.le_of_ble_eq_true rfl) dX7_done_211 hQ
    · refine lv_iload_n hx hb dX7_done_202 rfl (lv_at hl 2 rfl) ?_
      refine lv_if_eq (tgt := 210) hx hb dX7_done_203 (by decide) (fun c203 => ?_) (fun c203 => ?_)
      · refine lv_iconst (v := 0) hx hb dX7_done_210 (by decide) ?_
        exact s_iret cf hr hlk () hw (by unfold doneF; grind) (Nat.le_of_ble_eq_true rfl) (Nat.le_of_ble_eq_true rfl) dX7_done_211 hQ
      · refine lv_iconst (v := 1) hx hb dX7_done_206 (by decide) ?_
        refine lv_goto (tgt := 211) hx hb dX7_done_207 (by decide) ?_
        exact s_iret cf hr hlk () hw (by unfold doneF; grind) (Nat.le_of_ble_eq_true rfl) (Nat.le_of_ble_eq_true rfl) dX7_done_211 hQ
  by_cases t1_40 : sg = 40
  · refine lv_tableIn (tgt := 198) (off := 197) hx hb dX7_done_1 (by rw [t1_40]; decide) (by rw [t1_40]; decide) (by rw [t1_40]; decide) (by decide) ?_
    refine lv_iload_n hx hb dX7_done_198 rfl (lv_at hl 1 rfl) ?_
    refine lv_if_ne (tgt := 206) hx hb dX7_done_199 (by decide) (fun c199 => ?_) (fun c199 => ?_)
    · refine lv_iconst (v := 1) hx hb dX7_done_206 (by decide) ?_
      refine lv_goto (tgt := 211) hx hb dX7_done_207 (by decide) ?_
      exact s_iret cf hr hlk () hw (by unfold doneF; grind) (Nat.le_of_ble_eq_true rfl) (Nat.le_of_ble_eq_true rfl) dX7_done_211 hQ
    · refine lv_iload_n hx hb dX7_done_202 rfl (lv_at hl 2 rfl) ?_
      refine lv_if_eq (tgt := 210) hx hb dX7_done_203 (by decide) (fun c203 => ?_) (fun c203 => ?_)
      · refine lv_iconst (v := 0) hx hb dX7_done_210 (by decide) ?_
        exact s_iret cf hr hlk () hw (by unfold doneF; grind) (Nat.le_of_ble_eq_true rfl) (Nat.le_of_ble_eq_true rfl) dX7_done_211 hQ
      · refine lv_iconst (v := 1) hx hb dX7_done_206 (by decide) ?_
        refine lv_goto (tgt := 211) hx hb dX7_done_207 (by decide) ?_
        exact s_iret cf hr hlk () hw (by unfold doneF; grind) (Nat.le_of_ble_eq_true rfl) (Nat.le_of_ble_eq_true rfl) dX7_done_211 hQ
  by_cases t1_41 : sg = 41
  · refine lv_tableIn (tgt := 198) (off := 197) hx hb dX7_done_1 (by rw [t1_41]; decide) (by rw [t1_41]; decide) (by rw [t1_41]; decide) (by decide) ?_
    refine lv_iload_n hx hb dX7_done_198 rfl (lv_at hl 1 rfl) ?_
    refine lv_if_ne (tgt := 206) hx hb dX7_done_199 (by decide) (fun c199 => ?_) (fun c199 => ?_)
    · refine lv_iconst (v := 1) hx hb dX7_done_206 (by decide) ?_
      refine lv_goto (tgt := 211) hx hb dX7_done_207 (by decide) ?_
      exact s_iret cf hr hlk () hw (by unfold doneF; grind) (Nat.le_of_ble_eq_true rfl) (Nat.le_of_ble_eq_true rfl) dX7_done_211 hQ
    · refine lv_iload_n hx hb dX7_done_202 rfl (lv_at hl 2 rfl) ?_
      refine lv_if_eq (tgt := 210) hx hb dX7_done_203 (by decide) (fun c203 => ?_) (fun c203 => ?_)
      · refine lv_iconst (v := 0) hx hb dX7_done_210 (by decide) ?_
        exact s_iret cf hr hlk () hw (by unfold doneF; grind) (Nat.le_of_ble_eq_true rfl) (Nat.le_of_ble_eq_true rfl) dX7_done_211 hQ
      · refine lv_iconst (v := 1) hx hb dX7_done_206 (by decide) ?_
        refine lv_goto (tgt := 211) hx hb dX7_done_207 (by decide) ?_
        exact s_iret cf hr hlk () hw (by unfold doneF; grind) (Nat.le_of_ble_eq_true rfl) (Nat.le_of_ble_eq_true rfl) dX7_done_211 hQ
  by_cases t1_42 : sg = 42
  · refine lv_tableIn (tgt := 124) (off := 123) hx hb dX7_done_1 (by rw [t1_42]; decide) (by rw [t1_42]; decide) (by rw [t1_42]; decide) (by decide) ?_
    refine lv_iload_n hx hb dX7_done_124 rfl (lv_at hl 1 rfl) ?_
    refine lv_iload_n hx hb dX7_done_125 rfl (lv_at hl 2 rfl) ?_
    refine lv_imul hx hb dX7_done_126 ?_
    exact s_iret cf hr hlk () hw (by unfold doneF; grind) (Nat.le_of_ble_eq_true rfl) (Nat.le_of_ble_eq_true rfl) dX7_done_127 hQ
  by_cases t1_43 : sg = 43
  · refine lv_tableIn (tgt := 116) (off := 115) hx hb dX7_done_1 (by rw [t1_43]; decide) (by rw [t1_43]; decide) (by rw [t1_43]; decide) (by decide) ?_
    refine lv_iload_n hx hb dX7_done_116 rfl (lv_at hl 1 rfl) ?_
    refine lv_iload_n hx hb dX7_done_117 rfl (lv_at hl 2 rfl) ?_
    refine lv_iadd hx hb dX7_done_118 ?_
    exact s_iret cf hr hlk () hw (by unfold doneF; grind) (Nat.le_of_ble_eq_true rfl) (Nat.le_of_ble_eq_true rfl) dX7_done_119 hQ
  by_cases t1_44 : sg = 44
  · refine lv_tableIn (tgt := 198) (off := 197) hx hb dX7_done_1 (by rw [t1_44]; decide) (by rw [t1_44]; decide) (by rw [t1_44]; decide) (by decide) ?_
    refine lv_iload_n hx hb dX7_done_198 rfl (lv_at hl 1 rfl) ?_
    refine lv_if_ne (tgt := 206) hx hb dX7_done_199 (by decide) (fun c199 => ?_) (fun c199 => ?_)
    · refine lv_iconst (v := 1) hx hb dX7_done_206 (by decide) ?_
      refine lv_goto (tgt := 211) hx hb dX7_done_207 (by decide) ?_
      exact s_iret cf hr hlk () hw (by unfold doneF; grind) (Nat.le_of_ble_eq_true rfl) (Nat.le_of_ble_eq_true rfl) dX7_done_211 hQ
    · refine lv_iload_n hx hb dX7_done_202 rfl (lv_at hl 2 rfl) ?_
      refine lv_if_eq (tgt := 210) hx hb dX7_done_203 (by decide) (fun c203 => ?_) (fun c203 => ?_)
      · refine lv_iconst (v := 0) hx hb dX7_done_210 (by decide) ?_
        exact s_iret cf hr hlk () hw (by unfold doneF; grind) (Nat.le_of_ble_eq_true rfl) (Nat.le_of_ble_eq_true rfl) dX7_done_211 hQ
      · refine lv_iconst (v := 1) hx hb dX7_done_206 (by decide) ?_
        refine lv_goto (tgt := 211) hx hb dX7_done_207 (by decide) ?_
        exact s_iret cf hr hlk () hw (by unfold doneF; grind) (Nat.le_of_ble_eq_true rfl) (Nat.le_of_ble_eq_true rfl) dX7_done_211 hQ
  by_cases t1_45 : sg = 45
  · refine lv_tableIn (tgt := 120) (off := 119) hx hb dX7_done_1 (by rw [t1_45]; decide) (by rw [t1_45]; decide) (by rw [t1_45]; decide) (by decide) ?_
    refine lv_iload_n hx hb dX7_done_120 rfl (lv_at hl 1 rfl) ?_
    refine lv_iload_n hx hb dX7_done_121 rfl (lv_at hl 2 rfl) ?_
    refine lv_isub hx hb dX7_done_122 ?_
    exact s_iret cf hr hlk () hw (by unfold doneF; grind) (Nat.le_of_ble_eq_true rfl) (Nat.le_of_ble_eq_true rfl) dX7_done_123 hQ
  by_cases t1_46 : sg = 46
  · refine lv_tableIn (tgt := 198) (off := 197) hx hb dX7_done_1 (by rw [t1_46]; decide) (by rw [t1_46]; decide) (by rw [t1_46]; decide) (by decide) ?_
    refine lv_iload_n hx hb dX7_done_198 rfl (lv_at hl 1 rfl) ?_
    refine lv_if_ne (tgt := 206) hx hb dX7_done_199 (by decide) (fun c199 => ?_) (fun c199 => ?_)
    · refine lv_iconst (v := 1) hx hb dX7_done_206 (by decide) ?_
      refine lv_goto (tgt := 211) hx hb dX7_done_207 (by decide) ?_
      exact s_iret cf hr hlk () hw (by unfold doneF; grind) (Nat.le_of_ble_eq_true rfl) (Nat.le_of_ble_eq_true rfl) dX7_done_211 hQ
    · refine lv_iload_n hx hb dX7_done_202 rfl (lv_at hl 2 rfl) ?_
      refine lv_if_eq (tgt := 210) hx hb dX7_done_203 (by decide) (fun c203 => ?_) (fun c203 => ?_)
      · refine lv_iconst (v := 0) hx hb dX7_done_210 (by decide) ?_
        exact s_iret cf hr hlk () hw (by unfold doneF; grind) (Nat.le_of_ble_eq_true rfl) (Nat.le_of_ble_eq_true rfl) dX7_done_211 hQ
      · refine lv_iconst (v := 1) hx hb dX7_done_206 (by decide) ?_
        refine lv_goto (tgt := 211) hx hb dX7_done_207 (by decide) ?_
        exact s_iret cf hr hlk () hw (by unfold doneF; grind) (Nat.le_of_ble_eq_true rfl) (Nat.le_of_ble_eq_true rfl) dX7_done_211 hQ
  by_cases t1_47 : sg = 47
  · refine lv_tableIn (tgt := 128) (off := 127) hx hb dX7_done_1 (by rw [t1_47]; decide) (by rw [t1_47]; decide) (by rw [t1_47]; decide) (by decide) ?_
    refine lv_iload_n hx hb dX7_done_128 rfl (lv_at hl 2 rfl) ?_
    refine lv_if_ne (tgt := 136) hx hb dX7_done_129 (by decide) (fun c129 => ?_) (fun c129 => ?_)
    · refine lv_iload_n hx hb dX7_done_136 rfl (lv_at hl 2 rfl) ?_
      refine lv_iconst (v := (-1)) hx hb dX7_done_137 (by decide) ?_
      refine lv_icmp_ne (tgt := 147) hx hb dX7_done_138 (by decide) (fun c138 => ?_) (fun c138 => ?_)
      · refine lv_iload_n hx hb dX7_done_147 rfl (lv_at hl 1 rfl) ?_
        refine lv_iload_n hx hb dX7_done_148 rfl (lv_at hl 2 rfl) ?_
        refine lv_idiv hx hb dX7_done_149 c129 ?_
        exact s_iret cf hr hlk () hw (by unfold doneF; grind) (Nat.le_of_ble_eq_true rfl) (Nat.le_of_ble_eq_true rfl) dX7_done_150 hQ
      · refine lv_iconst (v := 0) hx hb dX7_done_141 (by decide) ?_
        refine lv_iload_n hx hb dX7_done_142 rfl (lv_at hl 1 rfl) ?_
        refine lv_isub hx hb dX7_done_143 ?_
        refine lv_goto (tgt := 150) hx hb dX7_done_144 (by decide) ?_
        exact s_iret cf hr hlk () hw (by unfold doneF; grind) (Nat.le_of_ble_eq_true rfl) (Nat.le_of_ble_eq_true rfl) dX7_done_150 hQ
    · refine lv_iconst (v := 0) hx hb dX7_done_132 (by decide) ?_
      refine lv_goto (tgt := 150) hx hb dX7_done_133 (by decide) ?_
      exact s_iret cf hr hlk () hw (by unfold doneF; grind) (Nat.le_of_ble_eq_true rfl) (Nat.le_of_ble_eq_true rfl) dX7_done_150 hQ
  by_cases t1_48 : sg = 48
  · refine lv_tableIn (tgt := 198) (off := 197) hx hb dX7_done_1 (by rw [t1_48]; decide) (by rw [t1_48]; decide) (by rw [t1_48]; decide) (by decide) ?_
    refine lv_iload_n hx hb dX7_done_198 rfl (lv_at hl 1 rfl) ?_
    refine lv_if_ne (tgt := 206) hx hb dX7_done_199 (by decide) (fun c199 => ?_) (fun c199 => ?_)
    · refine lv_iconst (v := 1) hx hb dX7_done_206 (by decide) ?_
      refine lv_goto (tgt := 211) hx hb dX7_done_207 (by decide) ?_
      exact s_iret cf hr hlk () hw (by unfold doneF; grind) (Nat.le_of_ble_eq_true rfl) (Nat.le_of_ble_eq_true rfl) dX7_done_211 hQ
    · refine lv_iload_n hx hb dX7_done_202 rfl (lv_at hl 2 rfl) ?_
      refine lv_if_eq (tgt := 210) hx hb dX7_done_203 (by decide) (fun c203 => ?_) (fun c203 => ?_)
      · refine lv_iconst (v := 0) hx hb dX7_done_210 (by decide) ?_
        exact s_iret cf hr hlk () hw (by unfold doneF; grind) (Nat.le_of_ble_eq_true rfl) (Nat.le_of_ble_eq_true rfl) dX7_done_211 hQ
      · refine lv_iconst (v := 1) hx hb dX7_done_206 (by decide) ?_
        refine lv_goto (tgt := 211) hx hb dX7_done_207 (by decide) ?_
        exact s_iret cf hr hlk () hw (by unfold doneF; grind) (Nat.le_of_ble_eq_true rfl) (Nat.le_of_ble_eq_true rfl) dX7_done_211 hQ
  by_cases t1_49 : sg = 49
  · refine lv_tableIn (tgt := 198) (off := 197) hx hb dX7_done_1 (by rw [t1_49]; decide) (by rw [t1_49]; decide) (by rw [t1_49]; decide) (by decide) ?_
    refine lv_iload_n hx hb dX7_done_198 rfl (lv_at hl 1 rfl) ?_
    refine lv_if_ne (tgt := 206) hx hb dX7_done_199 (by decide) (fun c199 => ?_) (fun c199 => ?_)
    · refine lv_iconst (v := 1) hx hb dX7_done_206 (by decide) ?_
      refine lv_goto (tgt := 211) hx hb dX7_done_207 (by decide) ?_
      exact s_iret cf hr hlk () hw (by unfold doneF; grind) (Nat.le_of_ble_eq_true rfl) (Nat.le_of_ble_eq_true rfl) dX7_done_211 hQ
    · refine lv_iload_n hx hb dX7_done_202 rfl (lv_at hl 2 rfl) ?_
      refine lv_if_eq (tgt := 210) hx hb dX7_done_203 (by decide) (fun c203 => ?_) (fun c203 => ?_)
      · refine lv_iconst (v := 0) hx hb dX7_done_210 (by decide) ?_
        exact s_iret cf hr hlk () hw (by unfold doneF; grind) (Nat.le_of_ble_eq_true rfl) (Nat.le_of_ble_eq_true rfl) dX7_done_211 hQ
      · refine lv_iconst (v := 1) hx hb dX7_done_206 (by decide) ?_
        refine lv_goto (tgt := 211) hx hb dX7_done_207 (by decide) ?_
        exact s_iret cf hr hlk () hw (by unfold doneF; grind) (Nat.le_of_ble_eq_true rfl) (Nat.le_of_ble_eq_true rfl) dX7_done_211 hQ
  by_cases t1_50 : sg = 50
  · refine lv_tableIn (tgt := 198) (off := 197) hx hb dX7_done_1 (by rw [t1_50]; decide) (by rw [t1_50]; decide) (by rw [t1_50]; decide) (by decide) ?_
    refine lv_iload_n hx hb dX7_done_198 rfl (lv_at hl 1 rfl) ?_
    refine lv_if_ne (tgt := 206) hx hb dX7_done_199 (by decide) (fun c199 => ?_) (fun c199 => ?_)
    · refine lv_iconst (v := 1) hx hb dX7_done_206 (by decide) ?_
      refine lv_goto (tgt := 211) hx hb dX7_done_207 (by decide) ?_
      exact s_iret cf hr hlk () hw (by unfold doneF; grind) (Nat.le_of_ble_eq_true rfl) (Nat.le_of_ble_eq_true rfl) dX7_done_211 hQ
    · refine lv_iload_n hx hb dX7_done_202 rfl (lv_at hl 2 rfl) ?_
      refine lv_if_eq (tgt := 210) hx hb dX7_done_203 (by decide) (fun c203 => ?_) (fun c203 => ?_)
      · refine lv_iconst (v := 0) hx hb dX7_done_210 (by decide) ?_
        exact s_iret cf hr hlk () hw (by unfold doneF; grind) (Nat.le_of_ble_eq_true rfl) (Nat.le_of_ble_eq_true rfl) dX7_done_211 hQ
      · refine lv_iconst (v := 1) hx hb dX7_done_206 (by decide) ?_
        refine lv_goto (tgt := 211) hx hb dX7_done_207 (by decide) ?_
        exact s_iret cf hr hlk () hw (by unfold doneF; grind) (Nat.le_of_ble_eq_true rfl) (Nat.le_of_ble_eq_true rfl) dX7_done_211 hQ
  by_cases t1_51 : sg = 51
  · refine lv_tableIn (tgt := 198) (off := 197) hx hb dX7_done_1 (by rw [t1_51]; decide) (by rw [t1_51]; decide) (by rw [t1_51]; decide) (by decide) ?_
    refine lv_iload_n hx hb dX7_done_198 rfl (lv_at hl 1 rfl) ?_
    refine lv_if_ne (tgt := 206) hx hb dX7_done_199 (by decide) (fun c199 => ?_) (fun c199 => ?_)
    · refine lv_iconst (v := 1) hx hb dX7_done_206 (by decide) ?_
      refine lv_goto (tgt := 211) hx hb dX7_done_207 (by decide) ?_
      exact s_iret cf hr hlk () hw (by unfold doneF; grind) (Nat.le_of_ble_eq_true rfl) (Nat.le_of_ble_eq_true rfl) dX7_done_211 hQ
    · refine lv_iload_n hx hb dX7_done_202 rfl (lv_at hl 2 rfl) ?_
      refine lv_if_eq (tgt := 210) hx hb dX7_done_203 (by decide) (fun c203 => ?_) (fun c203 => ?_)
      · refine lv_iconst (v := 0) hx hb dX7_done_210 (by decide) ?_
        exact s_iret cf hr hlk () hw (by unfold doneF; grind) (Nat.le_of_ble_eq_true rfl) (Nat.le_of_ble_eq_true rfl) dX7_done_211 hQ
      · refine lv_iconst (v := 1) hx hb dX7_done_206 (by decide) ?_
        refine lv_goto (tgt := 211) hx hb dX7_done_207 (by decide) ?_
        exact s_iret cf hr hlk () hw (by unfold doneF; grind) (Nat.le_of_ble_eq_true rfl) (Nat.le_of_ble_eq_true rfl) dX7_done_211 hQ
  by_cases t1_52 : sg = 52
  · refine lv_tableIn (tgt := 198) (off := 197) hx hb dX7_done_1 (by rw [t1_52]; decide) (by rw [t1_52]; decide) (by rw [t1_52]; decide) (by decide) ?_
    refine lv_iload_n hx hb dX7_done_198 rfl (lv_at hl 1 rfl) ?_
    refine lv_if_ne (tgt := 206) hx hb dX7_done_199 (by decide) (fun c199 => ?_) (fun c199 => ?_)
    · refine lv_iconst (v := 1) hx hb dX7_done_206 (by decide) ?_
      refine lv_goto (tgt := 211) hx hb dX7_done_207 (by decide) ?_
      exact s_iret cf hr hlk () hw (by unfold doneF; grind) (Nat.le_of_ble_eq_true rfl) (Nat.le_of_ble_eq_true rfl) dX7_done_211 hQ
    · refine lv_iload_n hx hb dX7_done_202 rfl (lv_at hl 2 rfl) ?_
      refine lv_if_eq (tgt := 210) hx hb dX7_done_203 (by decide) (fun c203 => ?_) (fun c203 => ?_)
      · refine lv_iconst (v := 0) hx hb dX7_done_210 (by decide) ?_
        exact s_iret cf hr hlk () hw (by unfold doneF; grind) (Nat.le_of_ble_eq_true rfl) (Nat.le_of_ble_eq_true rfl) dX7_done_211 hQ
      · refine lv_iconst (v := 1) hx hb dX7_done_206 (by decide) ?_
        refine lv_goto (tgt := 211) hx hb dX7_done_207 (by decide) ?_
        exact s_iret cf hr hlk () hw (by unfold doneF; grind) (Nat.le_of_ble_eq_true rfl) (Nat.le_of_ble_eq_true rfl) dX7_done_211 hQ
  by_cases t1_53 : sg = 53
  · refine lv_tableIn (tgt := 198) (off := 197) hx hb dX7_done_1 (by rw [t1_53]; decide) (by rw [t1_53]; decide) (by rw [t1_53]; decide) (by decide) ?_
    refine lv_iload_n hx hb dX7_done_198 rfl (lv_at hl 1 rfl) ?_
    refine lv_if_ne (tgt := 206) hx hb dX7_done_199 (by decide) (fun c199 => ?_) (fun c199 => ?_)
    · refine lv_iconst (v := 1) hx hb dX7_done_206 (by decide) ?_
      refine lv_goto (tgt := 211) hx hb dX7_done_207 (by decide) ?_
      exact s_iret cf hr hlk () hw (by unfold doneF; grind) (Nat.le_of_ble_eq_true rfl) (Nat.le_of_ble_eq_true rfl) dX7_done_211 hQ
    · refine lv_iload_n hx hb dX7_done_202 rfl (lv_at hl 2 rfl) ?_
      refine lv_if_eq (tgt := 210) hx hb dX7_done_203 (by decide) (fun c203 => ?_) (fun c203 => ?_)
      · refine lv_iconst (v := 0) hx hb dX7_done_210 (by decide) ?_
        exact s_iret cf hr hlk () hw (by unfold doneF; grind) (Nat.le_of_ble_eq_true rfl) (Nat.le_of_ble_eq_true rfl) dX7_done_211 hQ
      · refine lv_iconst (v := 1) hx hb dX7_done_206 (by decide) ?_
        refine lv_goto (tgt := 211) hx hb dX7_done_207 (by decide) ?_
        exact s_iret cf hr hlk () hw (by unfold doneF; grind) (Nat.le_of_ble_eq_true rfl) (Nat.le_of_ble_eq_true rfl) dX7_done_211 hQ
  by_cases t1_54 : sg = 54
  · refine lv_tableIn (tgt := 198) (off := 197) hx hb dX7_done_1 (by rw [t1_54]; decide) (by rw [t1_54]; decide) (by rw [t1_54]; decide) (by decide) ?_
    refine lv_iload_n hx hb dX7_done_198 rfl (lv_at hl 1 rfl) ?_
    refine lv_if_ne (tgt := 206) hx hb dX7_done_199 (by decide) (fun c199 => ?_) (fun c199 => ?_)
    · refine lv_iconst (v := 1) hx hb dX7_done_206 (by decide) ?_
      refine lv_goto (tgt := 211) hx hb dX7_done_207 (by decide) ?_
      exact s_iret cf hr hlk () hw (by unfold doneF; grind) (Nat.le_of_ble_eq_true rfl) (Nat.le_of_ble_eq_true rfl) dX7_done_211 hQ
    · refine lv_iload_n hx hb dX7_done_202 rfl (lv_at hl 2 rfl) ?_
      refine lv_if_eq (tgt := 210) hx hb dX7_done_203 (by decide) (fun c203 => ?_) (fun c203 => ?_)
      · refine lv_iconst (v := 0) hx hb dX7_done_210 (by decide) ?_
        exact s_iret cf hr hlk () hw (by unfold doneF; grind) (Nat.le_of_ble_eq_true rfl) (Nat.le_of_ble_eq_true rfl) dX7_done_211 hQ
      · refine lv_iconst (v := 1) hx hb dX7_done_206 (by decide) ?_
        refine lv_goto (tgt := 211) hx hb dX7_done_207 (by decide) ?_
        exact s_iret cf hr hlk () hw (by unfold doneF; grind) (Nat.le_of_ble_eq_true rfl) (Nat.le_of_ble_eq_true rfl) dX7_done_211 hQ
  by_cases t1_55 : sg = 55
  · refine lv_tableIn (tgt := 198) (off := 197) hx hb dX7_done_1 (by rw [t1_55]; decide) (by rw [t1_55]; decide) (by rw [t1_55]; decide) (by decide) ?_
    refine lv_iload_n hx hb dX7_done_198 rfl (lv_at hl 1 rfl) ?_
    refine lv_if_ne (tgt := 206) hx hb dX7_done_199 (by decide) (fun c199 => ?_) (fun c199 => ?_)
    · refine lv_iconst (v := 1) hx hb dX7_done_206 (by decide) ?_
      refine lv_goto (tgt := 211) hx hb dX7_done_207 (by decide) ?_
      exact s_iret cf hr hlk () hw (by unfold doneF; grind) (Nat.le_of_ble_eq_true rfl) (Nat.le_of_ble_eq_true rfl) dX7_done_211 hQ
    · refine lv_iload_n hx hb dX7_done_202 rfl (lv_at hl 2 rfl) ?_
      refine lv_if_eq (tgt := 210) hx hb dX7_done_203 (by decide) (fun c203 => ?_) (fun c203 => ?_)
      · refine lv_iconst (v := 0) hx hb dX7_done_210 (by decide) ?_
        exact s_iret cf hr hlk () hw (by unfold doneF; grind) (Nat.le_of_ble_eq_true rfl) (Nat.le_of_ble_eq_true rfl) dX7_done_211 hQ
      · refine lv_iconst (v := 1) hx hb dX7_done_206 (by decide) ?_
        refine lv_goto (tgt := 211) hx hb dX7_done_207 (by decide) ?_
        exact s_iret cf hr hlk () hw (by unfold doneF; grind) (Nat.le_of_ble_eq_true rfl) (Nat.le_of_ble_eq_true rfl) dX7_done_211 hQ
  by_cases t1_56 : sg = 56
  · refine lv_tableIn (tgt := 198) (off := 197) hx hb dX7_done_1 (by rw [t1_56]; decide) (by rw [t1_56]; decide) (by rw [t1_56]; decide) (by decide) ?_
    refine lv_iload_n hx hb dX7_done_198 rfl (lv_at hl 1 rfl) ?_
    refine lv_if_ne (tgt := 206) hx hb dX7_done_199 (by decide) (fun c199 => ?_) (fun c199 => ?_)
    · refine lv_iconst (v := 1) hx hb dX7_done_206 (by decide) ?_
      refine lv_goto (tgt := 211) hx hb dX7_done_207 (by decide) ?_
      exact s_iret cf hr hlk () hw (by unfold doneF; grind) (Nat.le_of_ble_eq_true rfl) (Nat.le_of_ble_eq_true rfl) dX7_done_211 hQ
    · refine lv_iload_n hx hb dX7_done_202 rfl (lv_at hl 2 rfl) ?_
      refine lv_if_eq (tgt := 210) hx hb dX7_done_203 (by decide) (fun c203 => ?_) (fun c203 => ?_)
      · refine lv_iconst (v := 0) hx hb dX7_done_210 (by decide) ?_
        exact s_iret cf hr hlk () hw (by unfold doneF; grind) (Nat.le_of_ble_eq_true rfl) (Nat.le_of_ble_eq_true rfl) dX7_done_211 hQ
      · refine lv_iconst (v := 1) hx hb dX7_done_206 (by decide) ?_
        refine lv_goto (tgt := 211) hx hb dX7_done_207 (by decide) ?_
        exact s_iret cf hr hlk () hw (by unfold doneF; grind) (Nat.le_of_ble_eq_true rfl) (Nat.le_of_ble_eq_true rfl) dX7_done_211 hQ
  by_cases t1_57 : sg = 57
  · refine lv_tableIn (tgt := 198) (off := 197) hx hb dX7_done_1 (by rw [t1_57]; decide) (by rw [t1_57]; decide) (by rw [t1_57]; decide) (by decide) ?_
    refine lv_iload_n hx hb dX7_done_198 rfl (lv_at hl 1 rfl) ?_
    refine lv_if_ne (tgt := 206) hx hb dX7_done_199 (by decide) (fun c199 => ?_) (fun c199 => ?_)
    · refine lv_iconst (v := 1) hx hb dX7_done_206 (by decide) ?_
      refine lv_goto (tgt := 211) hx hb dX7_done_207 (by decide) ?_
      exact s_iret cf hr hlk () hw (by unfold doneF; grind) (Nat.le_of_ble_eq_true rfl) (Nat.le_of_ble_eq_true rfl) dX7_done_211 hQ
    · refine lv_iload_n hx hb dX7_done_202 rfl (lv_at hl 2 rfl) ?_
      refine lv_if_eq (tgt := 210) hx hb dX7_done_203 (by decide) (fun c203 => ?_) (fun c203 => ?_)
      · refine lv_iconst (v := 0) hx hb dX7_done_210 (by decide) ?_
        exact s_iret cf hr hlk () hw (by unfold doneF; grind) (Nat.le_of_ble_eq_true rfl) (Nat.le_of_ble_eq_true rfl) dX7_done_211 hQ
      · refine lv_iconst (v := 1) hx hb dX7_done_206 (by decide) ?_
        refine lv_goto (tgt := 211) hx hb dX7_done_207 (by decide) ?_
        exact s_iret cf hr hlk () hw (by unfold doneF; grind) (Nat.le_of_ble_eq_true rfl) (Nat.le_of_ble_eq_true rfl) dX7_done_211 hQ
  by_cases t1_58 : sg = 58
  · refine lv_tableIn (tgt := 198) (off := 197) hx hb dX7_done_1 (by rw [t1_58]; decide) (by rw [t1_58]; decide) (by rw [t1_58]; decide) (by decide) ?_
    refine lv_iload_n hx hb dX7_done_198 rfl (lv_at hl 1 rfl) ?_
    refine lv_if_ne (tgt := 206) hx hb dX7_done_199 (by decide) (fun c199 => ?_) (fun c199 => ?_)
    · refine lv_iconst (v := 1) hx hb dX7_done_206 (by decide) ?_
      refine lv_goto (tgt := 211) hx hb dX7_done_207 (by decide) ?_
      exact s_iret cf hr hlk () hw (by unfold doneF; grind) (Nat.le_of_ble_eq_true rfl) (Nat.le_of_ble_eq_true rfl) dX7_done_211 hQ
    · refine lv_iload_n hx hb dX7_done_202 rfl (lv_at hl 2 rfl) ?_
      refine lv_if_eq (tgt := 210) hx hb dX7_done_203 (by decide) (fun c203 => ?_) (fun c203 => ?_)
      · refine lv_iconst (v := 0) hx hb dX7_done_210 (by decide) ?_
        exact s_iret cf hr hlk () hw (by unfold doneF; grind) (Nat.le_of_ble_eq_true rfl) (Nat.le_of_ble_eq_true rfl) dX7_done_211 hQ
      · refine lv_iconst (v := 1) hx hb dX7_done_206 (by decide) ?_
        refine lv_goto (tgt := 211) hx hb dX7_done_207 (by decide) ?_
        exact s_iret cf hr hlk () hw (by unfold doneF; grind) (Nat.le_of_ble_eq_true rfl) (Nat.le_of_ble_eq_true rfl) dX7_done_211 hQ
  by_cases t1_59 : sg = 59
  · refine lv_tableIn (tgt := 198) (off := 197) hx hb dX7_done_1 (by rw [t1_59]; decide) (by rw [t1_59]; decide) (by rw [t1_59]; decide) (by decide) ?_
    refine lv_iload_n hx hb dX7_done_198 rfl (lv_at hl 1 rfl) ?_
    refine lv_if_ne (tgt := 206) hx hb dX7_done_199 (by decide) (fun c199 => ?_) (fun c199 => ?_)
    · refine lv_iconst (v := 1) hx hb dX7_done_206 (by decide) ?_
      refine lv_goto (tgt := 211) hx hb dX7_done_207 (by decide) ?_
      exact s_iret cf hr hlk () hw (by unfold doneF; grind) (Nat.le_of_ble_eq_true rfl) (Nat.le_of_ble_eq_true rfl) dX7_done_211 hQ
    · refine lv_iload_n hx hb dX7_done_202 rfl (lv_at hl 2 rfl) ?_
      refine lv_if_eq (tgt := 210) hx hb dX7_done_203 (by decide) (fun c203 => ?_) (fun c203 => ?_)
      · refine lv_iconst (v := 0) hx hb dX7_done_210 (by decide) ?_
        exact s_iret cf hr hlk () hw (by unfold doneF; grind) (Nat.le_of_ble_eq_true rfl) (Nat.le_of_ble_eq_true rfl) dX7_done_211 hQ
      · refine lv_iconst (v := 1) hx hb dX7_done_206 (by decide) ?_
        refine lv_goto (tgt := 211) hx hb dX7_done_207 (by decide) ?_
        exact s_iret cf hr hlk () hw (by unfold doneF; grind) (Nat.le_of_ble_eq_true rfl) (Nat.le_of_ble_eq_true rfl) dX7_done_211 hQ
  by_cases t1_60 : sg = 60
  · refine lv_tableIn (tgt := 151) (off := 150) hx hb dX7_done_1 (by rw [t1_60]; decide) (by rw [t1_60]; decide) (by rw [t1_60]; decide) (by decide) ?_
    refine lv_iload_n hx hb dX7_done_151 rfl (lv_at hl 1 rfl) ?_
    refine lv_iload_n hx hb dX7_done_152 rfl (lv_at hl 2 rfl) ?_
    refine lv_icmp_ge (tgt := 160) hx hb dX7_done_153 (by decide) (fun c153 => ?_) (fun c153 => ?_)
    · refine lv_iconst (v := 0) hx hb dX7_done_160 (by decide) ?_
      exact s_iret cf hr hlk () hw (by unfold doneF; grind) (Nat.le_of_ble_eq_true rfl) (Nat.le_of_ble_eq_true rfl) dX7_done_161 hQ
    · refine lv_iconst (v := 1) hx hb dX7_done_156 (by decide) ?_
      refine lv_goto (tgt := 161) hx hb dX7_done_157 (by decide) ?_
      exact s_iret cf hr hlk () hw (by unfold doneF; grind) (Nat.le_of_ble_eq_true rfl) (Nat.le_of_ble_eq_true rfl) dX7_done_161 hQ
  by_cases t1_61 : sg = 61
  · refine lv_tableIn (tgt := 162) (off := 161) hx hb dX7_done_1 (by rw [t1_61]; decide) (by rw [t1_61]; decide) (by rw [t1_61]; decide) (by decide) ?_
    refine lv_iload_n hx hb dX7_done_162 rfl (lv_at hl 1 rfl) ?_
    refine lv_iload_n hx hb dX7_done_163 rfl (lv_at hl 2 rfl) ?_
    refine lv_icmp_ne (tgt := 171) hx hb dX7_done_164 (by decide) (fun c164 => ?_) (fun c164 => ?_)
    · refine lv_iconst (v := 0) hx hb dX7_done_171 (by decide) ?_
      exact s_iret cf hr hlk () hw (by unfold doneF; grind) (Nat.le_of_ble_eq_true rfl) (Nat.le_of_ble_eq_true rfl) dX7_done_172 hQ
    · refine lv_iconst (v := 1) hx hb dX7_done_167 (by decide) ?_
      refine lv_goto (tgt := 172) hx hb dX7_done_168 (by decide) ?_
      exact s_iret cf hr hlk () hw (by unfold doneF; grind) (Nat.le_of_ble_eq_true rfl) (Nat.le_of_ble_eq_true rfl) dX7_done_172 hQ
  by_cases t1_62 : sg = 62
  · refine lv_tableIn (tgt := 173) (off := 172) hx hb dX7_done_1 (by rw [t1_62]; decide) (by rw [t1_62]; decide) (by rw [t1_62]; decide) (by decide) ?_
    refine lv_iload_n hx hb dX7_done_173 rfl (lv_at hl 1 rfl) ?_
    refine lv_iload_n hx hb dX7_done_174 rfl (lv_at hl 2 rfl) ?_
    refine lv_icmp_le (tgt := 182) hx hb dX7_done_175 (by decide) (fun c175 => ?_) (fun c175 => ?_)
    · refine lv_iconst (v := 0) hx hb dX7_done_182 (by decide) ?_
      exact s_iret cf hr hlk () hw (by unfold doneF; grind) (Nat.le_of_ble_eq_true rfl) (Nat.le_of_ble_eq_true rfl) dX7_done_183 hQ
    · refine lv_iconst (v := 1) hx hb dX7_done_178 (by decide) ?_
      refine lv_goto (tgt := 183) hx hb dX7_done_179 (by decide) ?_
      exact s_iret cf hr hlk () hw (by unfold doneF; grind) (Nat.le_of_ble_eq_true rfl) (Nat.le_of_ble_eq_true rfl) dX7_done_183 hQ
  refine lv_tableOut (tgt := 198) hx hb dX7_done_1 (by have e0 := lv_neT t1_38 (show (38 : Int32).toInt = 38 from rfl); have e1 := lv_neT t1_39 (show (39 : Int32).toInt = 39 from rfl); have e2 := lv_neT t1_40 (show (40 : Int32).toInt = 40 from rfl); have e3 := lv_neT t1_41 (show (41 : Int32).toInt = 41 from rfl); have e4 := lv_neT t1_42 (show (42 : Int32).toInt = 42 from rfl); have e5 := lv_neT t1_43 (show (43 : Int32).toInt = 43 from rfl); have e6 := lv_neT t1_44 (show (44 : Int32).toInt = 44 from rfl); have e7 := lv_neT t1_45 (show (45 : Int32).toInt = 45 from rfl); have e8 := lv_neT t1_46 (show (46 : Int32).toInt = 46 from rfl); have e9 := lv_neT t1_47 (show (47 : Int32).toInt = 47 from rfl); have e10 := lv_neT t1_48 (show (48 : Int32).toInt = 48 from rfl); have e11 := lv_neT t1_49 (show (49 : Int32).toInt = 49 from rfl); have e12 := lv_neT t1_50 (show (50 : Int32).toInt = 50 from rfl); have e13 := lv_neT t1_51 (show (51 : Int32).toInt = 51 from rfl); have e14 := lv_neT t1_52 (show (52 : Int32).toInt = 52 from rfl); have e15 := lv_neT t1_53 (show (53 : Int32).toInt = 53 from rfl); have e16 := lv_neT t1_54 (show (54 : Int32).toInt = 54 from rfl); have e17 := lv_neT t1_55 (show (55 : Int32).toInt = 55 from rfl); have e18 := lv_neT t1_56 (show (56 : Int32).toInt = 56 from rfl); have e19 := lv_neT t1_57 (show (57 : Int32).toInt = 57 from rfl); have e20 := lv_neT t1_58 (show (58 : Int32).toInt = 58 from rfl); have e21 := lv_neT t1_59 (show (59 : Int32).toInt = 59 from rfl); have e22 := lv_neT t1_60 (show (60 : Int32).toInt = 60 from rfl); have e23 := lv_neT t1_61 (show (61 : Int32).toInt = 61 from rfl); have e24 := lv_neT t1_62 (show (62 : Int32).toInt = 62 from rfl); omega) (by decide) ?_
  refine lv_iload_n hx hb dX7_done_198 rfl (lv_at hl 1 rfl) ?_
  refine lv_if_ne (tgt := 206) hx hb dX7_done_199 (by decide) (fun c199 => ?_) (fun c199 => ?_)
  · refine lv_iconst (v := 1) hx hb dX7_done_206 (by decide) ?_
    refine lv_goto (tgt := 211) hx hb dX7_done_207 (by decide) ?_
    exact s_iret cf hr hlk () hw (by unfold doneF; grind) (Nat.le_of_ble_eq_true rfl) (Nat.le_of_ble_eq_true rfl) dX7_done_211 hQ
  · refine lv_iload_n hx hb dX7_done_202 rfl (lv_at hl 2 rfl) ?_
    refine lv_if_eq (tgt := 210) hx hb dX7_done_203 (by decide) (fun c203 => ?_) (fun c203 => ?_)
    · refine lv_iconst (v := 0) hx hb dX7_done_210 (by decide) ?_
      exact s_iret cf hr hlk () hw (by unfold doneF; grind) (Nat.le_of_ble_eq_true rfl) (Nat.le_of_ble_eq_true rfl) dX7_done_211 hQ
    · refine lv_iconst (v := 1) hx hb dX7_done_206 (by decide) ?_
      refine lv_goto (tgt := 211) hx hb dX7_done_207 (by decide) ?_
      exact s_iret cf hr hlk () hw (by unfold doneF; grind) (Nat.le_of_ble_eq_true rfl) (Nat.le_of_ble_eq_true rfl) dX7_done_211 hQ
set_option maxRecDepth 100000 in
set_option maxHeartbeats 4000000 in
theorem m_gives {l : Launch} {g : GG} {a : Nat} {ad : Nat → Nat} {fs : List Value} (hf : MF ad fs) {cdf sf pl : DD} (t : Nat) (x y z w : Int32) {len : Nat} {tc : DD} (ht : t < 14) (hsf : sf t = nI len) (hcf : ∀ k, k < len → cdf (96 * t + k) = tc k) (hok : okC len tc) : Ct l g yX7_gives cX7_gives 9 (Option.some Jvm.ClassFile.FieldType.int) 1 0 0 [.ref a, .int (nI t), .int x, .int y, .int z, .int w] [bO a 7 fs, bI g (ad 5) 1344 cdf, bI g (ad 7) 14 sf, bI g (ad 9) 96 pl] (QI g (fun r (_ : DD) => r = evalF (nmF x y z w) len tc) (fun u => [bO a 7 fs, bI g (ad 5) 1344 cdf, bI g (ad 7) 14 sf, bI g (ad 9) 96 u])) := by
  refine Ct.of (by decide) rfl ?_
  intro p e s m args below meth c A H locs ls Qf cf hr hlk hnm hQ hw hl
  have hx := cf.1
  have hb := cf.2.1
  have hml := cf.2.2.1
  have hown := cf.2.2.2.1
  have hts := cf.2.2.2.2
  have hw : WD g A s H locs [bO a 7 fs, bI g (ad 5) 1344 cdf, bI g (ad 7) 14 sf, bI g (ad 9) 96 pl] := hw
  have hl : lv_has ls 9 [(0, .ref a), (1, .int (nI t)), (2, .int x), (3, .int y), (4, .int z), (5, .int w)] := hl
  have hlen := hok.1
  refine lv_iconst (v := 0) hx hb dX7_gives_0 (by decide) ?_
  refine lv_istore (lv' := [(6, .int 0), (0, .ref a), (1, .int (nI t)), (2, .int x), (3, .int y), (4, .int z), (5, .int w)]) hx hb dX7_gives_1 hl (by decide) rfl (fun ls hl => ?_)
  refine lv_iconst (v := 0) hx hb dX7_gives_3 (by decide) ?_
  refine lv_istore (lv' := [(7, .int 0), (6, .int 0), (0, .ref a), (1, .int (nI t)), (2, .int x), (3, .int y), (4, .int z), (5, .int w)]) hx hb dX7_gives_4 hl (by decide) rfl (fun ls hl => ?_)
  have L6 : ∀ (fu : Nat) (i : Nat) (pl : DD), (i ≤ len) → (len < i + fu) → (PR pl (evst (nmF x y z w) tc i)) → ∀ (H : Heap) (locs : List Loc) (ls : Array Slot), WD g A s H locs [bO a 7 fs, bI g (ad 5) 1344 cdf, bI g (ad 7) 14 sf, bI g (ad 9) 96 pl] → lv_has ls 9 [(0, .ref a), (1, .int (nI t)), (2, .int x), (3, .int y), (4, .int z), (5, .int w), (6, .int (nI (dpt tc i))), (7, .int (nI i))] → W p l e (rmx 1 0 0) s m args below meth c H locs 0 0 Qf (F0 m 6 ls []) := by
    intro fu
    induction fu with
    | zero => intro i pl hi hfu hpr; exfalso; omega
    | succ fu ih6 =>
      intro i pl hi hfu hpr H locs ls hw hl
      refine lv_iload hx hb dX7_gives_6 (lv_at hl 7 rfl) ?_
      refine lv_aload_n hx hb dX7_gives_8 rfl (lv_at hl 0 rfl) ?_
      refine s_get (v := .ref (ad 7)) fb7 cf hw 0 rfl 7 rfl q928 (hf.2 7 rfl) dX7_gives_9 ?_
      refine lv_iload_n hx hb dX7_gives_12 rfl (lv_at hl 1 rfl) ?_
      refine s_iald (j := t) cf hw 2 rfl (rfl) (by omega) rfl dX7_gives_13 ?_
      refine lv_topr (y := nI len) (hsf) ?_
      refine lv_icmp_ge (tgt := 194) hx hb dX7_gives_14 (by decide) (fun c14 => ?_) (fun c14 => ?_)
      · have hi2 : i = len := by have := nI_le_of (by omega) c14 (by omega); omega
        subst hi2
        refine lv_aload_n hx hb dX7_gives_194 rfl (lv_at hl 0 rfl) ?_
        refine s_get (v := .ref (ad 9)) fb7 cf hw 0 rfl 9 rfl q930 (hf.2 9 rfl) dX7_gives_195 ?_
        refine lv_iconst (v := 0) hx hb dX7_gives_198 (by decide) ?_
        refine s_iald (j := 0) cf hw 3 rfl (rfl) (by decide) rfl dX7_gives_199 ?_
        exact s_iret cf hr hlk pl hw (by have hl1 := evst_len (nm := nmF x y z w) hok _ (Nat.le_refl _); rw [hok.2.2.2] at hl1; obtain ⟨v0, r0, hst⟩ := List.exists_cons_of_length_eq_add_one hl1; unfold evalF; rw [hst] at hpr hl1 ⊢; simp at hl1; subst hl1; exact hpr.top) (Nat.le_of_ble_eq_true rfl) (Nat.le_of_ble_eq_true rfl) dX7_gives_200 hQ
      · have hlt : i < len := nI_lt_of (by omega) c14 (by omega)
        have hdl := dpt_le (cf := tc) i
        have hln := evst_len (nm := nmF x y z w) hok i hi
        refine lv_aload_n hx hb dX7_gives_17 rfl (lv_at hl 0 rfl) ?_
        refine s_get (v := .ref (ad 5)) fb7 cf hw 0 rfl 5 rfl q926 (hf.2 5 rfl) dX7_gives_18 ?_
        refine lv_bipush (v := 96) hx hb dX7_gives_21 (by decide) ?_
        refine lv_iload_n hx hb dX7_gives_23 rfl (lv_at hl 1 rfl) ?_
        refine lv_imul hx hb dX7_gives_24 ?_
        refine lv_iload hx hb dX7_gives_25 (lv_at hl 7 rfl) ?_
        refine lv_iadd hx hb dX7_gives_27 ?_
        refine s_iald (j := (96 * t + i)) cf hw 1 rfl (ix96 t i) (by omega) rfl dX7_gives_28 ?_
        refine lv_topr (y := tc i) (hcf i hlt) ?_
        refine lv_istore (lv' := [(8, .int (tc i)), (0, .ref a), (1, .int (nI t)), (2, .int x), (3, .int y), (4, .int z), (5, .int w), (6, .int (nI (dpt tc i))), (7, .int (nI i))]) hx hb dX7_gives_29 hl (by decide) rfl (fun ls hl => ?_)
        refine lv_iload hx hb dX7_gives_31 (lv_at hl 0 rfl) ?_
        refine lv_sipush (v := 10000) hx hb dX7_gives_33 (by decide) ?_
        refine lv_icmp_ge (tgt := 54) hx hb dX7_gives_36 (by decide) (fun c36 => ?_) (fun c36 => ?_)
        · refine lv_iload hx hb dX7_gives_54 (lv_at hl 0 rfl) ?_
          refine lv_sipush (v := 20000) hx hb dX7_gives_56 (by decide) ?_
          refine lv_icmp_ge (tgt := 114) hx hb dX7_gives_59 (by decide) (fun c59 => ?_) (fun c59 => ?_)
          · refine lv_iload hx hb dX7_gives_114 (lv_at hl 0 rfl) ?_
            refine lv_sipush (v := 20033) hx hb dX7_gives_116 (by decide) ?_
            refine lv_icmp_ne (tgt := 151) hx hb dX7_gives_119 (by decide) (fun c119 => ?_) (fun c119 => ?_)
            · have hd2 := hok.2.2.1 i hlt (by grind) (by grind)
              obtain ⟨k, hk⟩ : ∃ k, dpt tc i = k + 1 + 1 := ⟨dpt tc i - 2, by omega⟩
              obtain ⟨v1, v0, r0, hst⟩ : ∃ v1 v0 r0, evst (nmF x y z w) tc i = v1 :: v0 :: r0 := by obtain ⟨v1, r1, h1⟩ := List.exists_cons_of_length_eq_add_one (hln.trans hk); obtain ⟨v0, r0, h0⟩ := List.exists_cons_of_length_eq_add_one (n := k) (l := r1) (by rw [h1] at hln; simp at hln; omega); exact ⟨v1, v0, r0, by rw [h1, h0]⟩
              have hrl : r0.length = k := by rw [hst] at hln; simp at hln; omega
              rw [hst] at hpr
              have hv1 : pl (k + 1) = v1 := by have := hpr.top; simp [hrl] at this; exact this
              have hv0 : pl k = v0 := by rw [← hrl]; exact hpr.pop.top
              refine lv_iinc (v := nI (k + 1)) (lv' := [(6, .int (nI (k + 1))), (8, .int (tc i)), (0, .ref a), (1, .int (nI t)), (2, .int x), (3, .int y), (4, .int z), (5, .int w), (7, .int (nI i))]) hx hb dX7_gives_151 hl (k := 7) rfl (by rw [hk]; exact pk_m1 (k + 1)) (by decide) rfl (fun ls hl => ?_)
              refine lv_aload_n hx hb dX7_gives_154 rfl (lv_at hl 2 rfl) ?_
              refine s_get (v := .ref (ad 9)) fb7 cf hw 0 rfl 9 rfl q930 (hf.2 9 rfl) dX7_gives_155 ?_
              refine lv_iload hx hb dX7_gives_158 (lv_at hl 0 rfl) ?_
              refine lv_iconst (v := 1) hx hb dX7_gives_160 (by decide) ?_
              refine lv_isub hx hb dX7_gives_161 ?_
              refine lv_iload hx hb dX7_gives_162 (lv_at hl 1 rfl) ?_
              refine lv_sipush (v := 20000) hx hb dX7_gives_164 (by decide) ?_
              refine lv_isub hx hb dX7_gives_167 ?_
              refine lv_aload_n hx hb dX7_gives_168 rfl (lv_at hl 2 rfl) ?_
              refine s_get (v := .ref (ad 9)) fb7 cf hw 0 rfl 9 rfl q930 (hf.2 9 rfl) dX7_gives_169 ?_
              refine lv_iload hx hb dX7_gives_172 (lv_at hl 0 rfl) ?_
              refine lv_iconst (v := 1) hx hb dX7_gives_174 (by decide) ?_
              refine lv_isub hx hb dX7_gives_175 ?_
              refine s_iald (j := k) cf hw 3 rfl (nI_pred k) (by omega) rfl dX7_gives_176 ?_
              refine lv_aload_n hx hb dX7_gives_177 rfl (lv_at hl 2 rfl) ?_
              refine s_get (v := .ref (ad 9)) fb7 cf hw 0 rfl 9 rfl q930 (hf.2 9 rfl) dX7_gives_178 ?_
              refine lv_iload hx hb dX7_gives_181 (lv_at hl 0 rfl) ?_
              refine s_iald (j := (k + 1)) cf hw 3 rfl (rfl) (by omega) rfl dX7_gives_183 ?_
              refine s_calli (runS cf (m_done ((tc i) - 20000) (pl k) (pl (k + 1))) hw [] (by decide) rfl km_X7_done ks_X7_done q1087 rfl rfl hl.1 rfl dX7_gives_184) hw [] (by decide) rfl (fun _ => rfl) (fun r_3 u_1 H locs hp_2 hw => ?_)
              have hw : WD g A s H locs [bO a 7 fs, bI g (ad 5) 1344 cdf, bI g (ad 7) 14 sf, bI g (ad 9) 96 pl] := hw
              subst hp_2
              refine s_iast (j := k) cf hw 3 rfl (nI_pred k) (by omega) rfl dX7_gives_187 (fun H locs hw => ?_)
              have hw : WD g A s H locs [bO a 7 fs, bI g (ad 5) 1344 cdf, bI g (ad 7) 14 sf, bI g (ad 9) 96 (upd pl k (doneF ((tc i) - 20000) (pl k) (pl (k + 1))))] := hw
              have e1 : evst (nmF x y z w) tc (i + 1) = doneF (tc i - 20000) (pl k) (pl (k + 1)) :: r0 := by show estep (nmF x y z w) (tc i) (evst (nmF x y z w) tc i) = _; rw [hst, hv0, hv1]; unfold estep; rw [if_neg (by grind), if_neg (by grind), if_neg (by grind)]
              have e2 : dpt tc (i + 1) = k + 1 := by show dstep (tc i) (dpt tc i) = _; unfold dstep; rw [if_neg (by grind), if_neg (by grind)]; omega
              have hpr2 : PR (upd pl k (doneF (tc i - 20000) (pl k) (pl (k + 1)))) (evst (nmF x y z w) tc (i + 1)) := by rw [e1]; exact (hpr.pop.pop).push hrl
              have hl : lv_has ls 9 [(6, .int (nI (dpt tc (i + 1)))), (8, .int (tc i)), (0, .ref a), (1, .int (nI t)), (2, .int x), (3, .int y), (4, .int z), (5, .int w), (7, .int (nI i))] := by rw [e2]; exact hl
              refine lv_iinc (v := nI (i + 1)) (lv' := [(7, .int (nI (i + 1))), (6, .int (nI (dpt tc (i + 1)))), (8, .int (tc i)), (0, .ref a), (1, .int (nI t)), (2, .int x), (3, .int y), (4, .int z), (5, .int w)]) hx hb dX7_gives_188 hl (k := 8) rfl (nI_1 i) (by decide) rfl (fun ls hl => ?_)
              refine lv_goto (tgt := 6) hx hb dX7_gives_191 (by decide) ?_
              exact ih6 (i + 1) (upd pl k (doneF ((tc i) - 20000) (pl k) (pl (k + 1)))) (by omega) (by omega) hpr2 _ _ _ hw (lv_sub hl [3, 4, 5, 6, 7, 8, 1, 0] rfl)
            · have hd1 := hok.2.1 i hlt (by grind) (by grind)
              obtain ⟨k, hk⟩ : ∃ k, dpt tc i = k + 1 := ⟨dpt tc i - 1, by omega⟩
              obtain ⟨v0, r0, hst⟩ : ∃ v0 r0, evst (nmF x y z w) tc i = v0 :: r0 := List.exists_cons_of_length_eq_add_one (hln.trans hk)
              have hrl : r0.length = k := by rw [hst] at hln; simp at hln; omega
              rw [hst] at hpr
              have hv0 : pl k = v0 := by rw [← hrl]; exact hpr.top
              refine lv_aload_n hx hb dX7_gives_122 rfl (lv_at hl 1 rfl) ?_
              refine s_get (v := .ref (ad 9)) fb7 cf hw 0 rfl 9 rfl q930 (hf.2 9 rfl) dX7_gives_123 ?_
              refine lv_iload hx hb dX7_gives_126 (lv_at hl 7 rfl) ?_
              refine lv_iconst (v := 1) hx hb dX7_gives_128 (by decide) ?_
              refine lv_isub hx hb dX7_gives_129 ?_
              refine lv_aload_n hx hb dX7_gives_130 rfl (lv_at hl 1 rfl) ?_
              refine s_get (v := .ref (ad 9)) fb7 cf hw 0 rfl 9 rfl q930 (hf.2 9 rfl) dX7_gives_131 ?_
              refine lv_iload hx hb dX7_gives_134 (lv_at hl 7 rfl) ?_
              refine lv_iconst (v := 1) hx hb dX7_gives_136 (by decide) ?_
              refine lv_isub hx hb dX7_gives_137 ?_
              refine s_iald (j := k) cf hw 3 rfl (by rw [hk, nI_pred]) (by omega) rfl dX7_gives_138 ?_
              refine lv_if_ne (tgt := 146) hx hb dX7_gives_139 (by decide) (fun c139 => ?_) (fun c139 => ?_)
              · refine lv_iconst (v := 0) hx hb dX7_gives_146 (by decide) ?_
                refine lv_topr (y := if v0 = 0 then 1 else 0) (by grind) ?_
                refine s_iast (j := k) cf hw 3 rfl (by rw [hk, nI_pred]) (by omega) rfl dX7_gives_147 (fun H locs hw => ?_)
                have hw : WD g A s H locs [bO a 7 fs, bI g (ad 5) 1344 cdf, bI g (ad 7) 14 sf, bI g (ad 9) 96 (upd pl k (if v0 = 0 then 1 else 0))] := hw
                have e1 : evst (nmF x y z w) tc (i + 1) = (if v0 = 0 then 1 else 0) :: r0 := by show estep (nmF x y z w) (tc i) (evst (nmF x y z w) tc i) = _; rw [hst]; unfold estep; rw [if_neg (by grind), if_neg (by grind), if_pos (by grind)]
                have e2 : dpt tc (i + 1) = dpt tc i := by show dstep (tc i) (dpt tc i) = _; unfold dstep; rw [if_neg (by grind), if_pos (by grind)]
                have hpr2 : PR (upd pl k (if v0 = 0 then 1 else 0)) (evst (nmF x y z w) tc (i + 1)) := by rw [e1]; exact (hpr.pop).push hrl
                have hl : lv_has ls 9 [(8, .int (tc i)), (0, .ref a), (1, .int (nI t)), (2, .int x), (3, .int y), (4, .int z), (5, .int w), (6, .int (nI (dpt tc (i + 1)))), (7, .int (nI i))] := by rw [e2]; exact hl
                refine lv_goto (tgt := 188) hx hb dX7_gives_148 (by decide) ?_
                refine lv_iinc (v := nI (i + 1)) (lv' := [(7, .int (nI (i + 1))), (8, .int (tc i)), (0, .ref a), (1, .int (nI t)), (2, .int x), (3, .int y), (4, .int z), (5, .int w), (6, .int (nI (dpt tc (i + 1))))]) hx hb dX7_gives_188 hl (k := 8) rfl (nI_1 i) (by decide) rfl (fun ls hl => ?_)
                refine lv_goto (tgt := 6) hx hb dX7_gives_191 (by decide) ?_
                exact ih6 (i + 1) (upd pl k (if v0 = 0 then 1 else 0)) (by omega) (by omega) hpr2 _ _ _ hw (lv_sub hl [2, 3, 4, 5, 6, 7, 8, 0] rfl)
              · refine lv_iconst (v := 1) hx hb dX7_gives_142 (by decide) ?_
                refine lv_goto (tgt := 147) hx hb dX7_gives_143 (by decide) ?_
                refine lv_topr (y := if v0 = 0 then 1 else 0) (by grind) ?_
                refine s_iast (j := k) cf hw 3 rfl (by rw [hk, nI_pred]) (by omega) rfl dX7_gives_147 (fun H locs hw => ?_)
                have hw : WD g A s H locs [bO a 7 fs, bI g (ad 5) 1344 cdf, bI g (ad 7) 14 sf, bI g (ad 9) 96 (upd pl k (if v0 = 0 then 1 else 0))] := hw
                have e1 : evst (nmF x y z w) tc (i + 1) = (if v0 = 0 then 1 else 0) :: r0 := by show estep (nmF x y z w) (tc i) (evst (nmF x y z w) tc i) = _; rw [hst]; unfold estep; rw [if_neg (by grind), if_neg (by grind), if_pos (by grind)]
                have e2 : dpt tc (i + 1) = dpt tc i := by show dstep (tc i) (dpt tc i) = _; unfold dstep; rw [if_neg (by grind), if_pos (by grind)]
                have hpr2 : PR (upd pl k (if v0 = 0 then 1 else 0)) (evst (nmF x y z w) tc (i + 1)) := by rw [e1]; exact (hpr.pop).push hrl
                have hl : lv_has ls 9 [(8, .int (tc i)), (0, .ref a), (1, .int (nI t)), (2, .int x), (3, .int y), (4, .int z), (5, .int w), (6, .int (nI (dpt tc (i + 1)))), (7, .int (nI i))] := by rw [e2]; exact hl
                refine lv_goto (tgt := 188) hx hb dX7_gives_148 (by decide) ?_
                refine lv_iinc (v := nI (i + 1)) (lv' := [(7, .int (nI (i + 1))), (8, .int (tc i)), (0, .ref a), (1, .int (nI t)), (2, .int x), (3, .int y), (4, .int z), (5, .int w), (6, .int (nI (dpt tc (i + 1))))]) hx hb dX7_gives_188 hl (k := 8) rfl (nI_1 i) (by decide) rfl (fun ls hl => ?_)
                refine lv_goto (tgt := 6) hx hb dX7_gives_191 (by decide) ?_
                exact ih6 (i + 1) (upd pl k (if v0 = 0 then 1 else 0)) (by omega) (by omega) hpr2 _ _ _ hw (lv_sub hl [2, 3, 4, 5, 6, 7, 8, 0] rfl)
          · refine lv_aload_n hx hb dX7_gives_62 rfl (lv_at hl 1 rfl) ?_
            refine s_get (v := .ref (ad 9)) fb7 cf hw 0 rfl 9 rfl q930 (hf.2 9 rfl) dX7_gives_63 ?_
            refine lv_iload hx hb dX7_gives_66 (lv_at hl 7 rfl) ?_
            refine lv_iload hx hb dX7_gives_68 (lv_at hl 0 rfl) ?_
            refine lv_sipush (v := 10000) hx hb dX7_gives_70 (by decide) ?_
            refine lv_icmp_ne (tgt := 80) hx hb dX7_gives_73 (by decide) (fun c73 => ?_) (fun c73 => ?_)
            · refine lv_iload hx hb dX7_gives_80 (lv_at hl 0 rfl) ?_
              refine lv_sipush (v := 10001) hx hb dX7_gives_82 (by decide) ?_
              refine lv_icmp_ne (tgt := 92) hx hb dX7_gives_85 (by decide) (fun c85 => ?_) (fun c85 => ?_)
              · refine lv_iload hx hb dX7_gives_92 (lv_at hl 0 rfl) ?_
                refine lv_sipush (v := 10002) hx hb dX7_gives_94 (by decide) ?_
                refine lv_icmp_ne (tgt := 105) hx hb dX7_gives_97 (by decide) (fun c97 => ?_) (fun c97 => ?_)
                · refine lv_iload hx hb dX7_gives_105 (lv_at hl 6 rfl) ?_
                  refine lv_topr (y := nmF x y z w (tc i)) (by unfold nmF; grind) ?_
                  refine s_iast (j := (dpt tc i)) cf hw 3 rfl (rfl) (by omega) rfl dX7_gives_107 (fun H locs hw => ?_)
                  have hw : WD g A s H locs [bO a 7 fs, bI g (ad 5) 1344 cdf, bI g (ad 7) 14 sf, bI g (ad 9) 96 (upd pl (dpt tc i) (nmF x y z w (tc i)))] := hw
                  refine lv_iinc (v := nI ((dpt tc i) + 1)) (lv' := [(6, .int (nI ((dpt tc i) + 1))), (8, .int (tc i)), (0, .ref a), (1, .int (nI t)), (2, .int x), (3, .int y), (4, .int z), (5, .int w), (7, .int (nI i))]) hx hb dX7_gives_108 hl (k := 7) rfl (nI_1 (dpt tc i)) (by decide) rfl (fun ls hl => ?_)
                  have e1 : evst (nmF x y z w) tc (i + 1) = nmF x y z w (tc i) :: evst (nmF x y z w) tc i := by show estep (nmF x y z w) (tc i) (evst (nmF x y z w) tc i) = _; unfold estep; rw [if_neg (by grind), if_pos (by grind)]
                  have e2 : dpt tc (i + 1) = dpt tc i + 1 := by show dstep (tc i) (dpt tc i) = _; unfold dstep; rw [if_pos (by grind)]
                  have hl : lv_has ls 9 [(6, .int (nI (dpt tc (i + 1)))), (8, .int (tc i)), (0, .ref a), (1, .int (nI t)), (2, .int x), (3, .int y), (4, .int z), (5, .int w), (7, .int (nI i))] := by rw [e2]; exact hl
                  have hpr2 : PR (upd pl (dpt tc i) (nmF x y z w (tc i))) (evst (nmF x y z w) tc (i + 1)) := by rw [e1]; exact hpr.push hln
                  refine lv_goto (tgt := 188) hx hb dX7_gives_111 (by decide) ?_
                  refine lv_iinc (v := nI (i + 1)) (lv' := [(7, .int (nI (i + 1))), (6, .int (nI (dpt tc (i + 1)))), (8, .int (tc i)), (0, .ref a), (1, .int (nI t)), (2, .int x), (3, .int y), (4, .int z), (5, .int w)]) hx hb dX7_gives_188 hl (k := 8) rfl (nI_1 i) (by decide) rfl (fun ls hl => ?_)
                  refine lv_goto (tgt := 6) hx hb dX7_gives_191 (by decide) ?_
                  exact ih6 (i + 1) (upd pl (dpt tc i) (nmF x y z w (tc i))) (by omega) (by omega) hpr2 _ _ _ hw (lv_sub hl [3, 4, 5, 6, 7, 8, 1, 0] rfl)
                · refine lv_iload hx hb dX7_gives_100 (lv_at hl 5 rfl) ?_
                  refine lv_goto (tgt := 107) hx hb dX7_gives_102 (by decide) ?_
                  refine lv_topr (y := nmF x y z w (tc i)) (by unfold nmF; grind) ?_
                  refine s_iast (j := (dpt tc i)) cf hw 3 rfl (rfl) (by omega) rfl dX7_gives_107 (fun H locs hw => ?_)
                  have hw : WD g A s H locs [bO a 7 fs, bI g (ad 5) 1344 cdf, bI g (ad 7) 14 sf, bI g (ad 9) 96 (upd pl (dpt tc i) (nmF x y z w (tc i)))] := hw
                  refine lv_iinc (v := nI ((dpt tc i) + 1)) (lv' := [(6, .int (nI ((dpt tc i) + 1))), (8, .int (tc i)), (0, .ref a), (1, .int (nI t)), (2, .int x), (3, .int y), (4, .int z), (5, .int w), (7, .int (nI i))]) hx hb dX7_gives_108 hl (k := 7) rfl (nI_1 (dpt tc i)) (by decide) rfl (fun ls hl => ?_)
                  have e1 : evst (nmF x y z w) tc (i + 1) = nmF x y z w (tc i) :: evst (nmF x y z w) tc i := by show estep (nmF x y z w) (tc i) (evst (nmF x y z w) tc i) = _; unfold estep; rw [if_neg (by grind), if_pos (by grind)]
                  have e2 : dpt tc (i + 1) = dpt tc i + 1 := by show dstep (tc i) (dpt tc i) = _; unfold dstep; rw [if_pos (by grind)]
                  have hl : lv_has ls 9 [(6, .int (nI (dpt tc (i + 1)))), (8, .int (tc i)), (0, .ref a), (1, .int (nI t)), (2, .int x), (3, .int y), (4, .int z), (5, .int w), (7, .int (nI i))] := by rw [e2]; exact hl
                  have hpr2 : PR (upd pl (dpt tc i) (nmF x y z w (tc i))) (evst (nmF x y z w) tc (i + 1)) := by rw [e1]; exact hpr.push hln
                  refine lv_goto (tgt := 188) hx hb dX7_gives_111 (by decide) ?_
                  refine lv_iinc (v := nI (i + 1)) (lv' := [(7, .int (nI (i + 1))), (6, .int (nI (dpt tc (i + 1)))), (8, .int (tc i)), (0, .ref a), (1, .int (nI t)), (2, .int x), (3, .int y), (4, .int z), (5, .int w)]) hx hb dX7_gives_188 hl (k := 8) rfl (nI_1 i) (by decide) rfl (fun ls hl => ?_)
                  refine lv_goto (tgt := 6) hx hb dX7_gives_191 (by decide) ?_
                  exact ih6 (i + 1) (upd pl (dpt tc i) (nmF x y z w (tc i))) (by omega) (by omega) hpr2 _ _ _ hw (lv_sub hl [3, 4, 5, 6, 7, 8, 1, 0] rfl)
              · refine lv_iload_n hx hb dX7_gives_88 rfl (lv_at hl 4 rfl) ?_
                refine lv_goto (tgt := 107) hx hb dX7_gives_89 (by decide) ?_
                refine lv_topr (y := nmF x y z w (tc i)) (by unfold nmF; grind) ?_
                refine s_iast (j := (dpt tc i)) cf hw 3 rfl (rfl) (by omega) rfl dX7_gives_107 (fun H locs hw => ?_)
                have hw : WD g A s H locs [bO a 7 fs, bI g (ad 5) 1344 cdf, bI g (ad 7) 14 sf, bI g (ad 9) 96 (upd pl (dpt tc i) (nmF x y z w (tc i)))] := hw
                refine lv_iinc (v := nI ((dpt tc i) + 1)) (lv' := [(6, .int (nI ((dpt tc i) + 1))), (8, .int (tc i)), (0, .ref a), (1, .int (nI t)), (2, .int x), (3, .int y), (4, .int z), (5, .int w), (7, .int (nI i))]) hx hb dX7_gives_108 hl (k := 7) rfl (nI_1 (dpt tc i)) (by decide) rfl (fun ls hl => ?_)
                have e1 : evst (nmF x y z w) tc (i + 1) = nmF x y z w (tc i) :: evst (nmF x y z w) tc i := by show estep (nmF x y z w) (tc i) (evst (nmF x y z w) tc i) = _; unfold estep; rw [if_neg (by grind), if_pos (by grind)]
                have e2 : dpt tc (i + 1) = dpt tc i + 1 := by show dstep (tc i) (dpt tc i) = _; unfold dstep; rw [if_pos (by grind)]
                have hl : lv_has ls 9 [(6, .int (nI (dpt tc (i + 1)))), (8, .int (tc i)), (0, .ref a), (1, .int (nI t)), (2, .int x), (3, .int y), (4, .int z), (5, .int w), (7, .int (nI i))] := by rw [e2]; exact hl
                have hpr2 : PR (upd pl (dpt tc i) (nmF x y z w (tc i))) (evst (nmF x y z w) tc (i + 1)) := by rw [e1]; exact hpr.push hln
                refine lv_goto (tgt := 188) hx hb dX7_gives_111 (by decide) ?_
                refine lv_iinc (v := nI (i + 1)) (lv' := [(7, .int (nI (i + 1))), (6, .int (nI (dpt tc (i + 1)))), (8, .int (tc i)), (0, .ref a), (1, .int (nI t)), (2, .int x), (3, .int y), (4, .int z), (5, .int w)]) hx hb dX7_gives_188 hl (k := 8) rfl (nI_1 i) (by decide) rfl (fun ls hl => ?_)
                refine lv_goto (tgt := 6) hx hb dX7_gives_191 (by decide) ?_
                exact ih6 (i + 1) (upd pl (dpt tc i) (nmF x y z w (tc i))) (by omega) (by omega) hpr2 _ _ _ hw (lv_sub hl [3, 4, 5, 6, 7, 8, 1, 0] rfl)
            · refine lv_iload_n hx hb dX7_gives_76 rfl (lv_at hl 3 rfl) ?_
              refine lv_goto (tgt := 107) hx hb dX7_gives_77 (by decide) ?_
              refine lv_topr (y := nmF x y z w (tc i)) (by unfold nmF; grind) ?_
              refine s_iast (j := (dpt tc i)) cf hw 3 rfl (rfl) (by omega) rfl dX7_gives_107 (fun H locs hw => ?_)
              have hw : WD g A s H locs [bO a 7 fs, bI g (ad 5) 1344 cdf, bI g (ad 7) 14 sf, bI g (ad 9) 96 (upd pl (dpt tc i) (nmF x y z w (tc i)))] := hw
              refine lv_iinc (v := nI ((dpt tc i) + 1)) (lv' := [(6, .int (nI ((dpt tc i) + 1))), (8, .int (tc i)), (0, .ref a), (1, .int (nI t)), (2, .int x), (3, .int y), (4, .int z), (5, .int w), (7, .int (nI i))]) hx hb dX7_gives_108 hl (k := 7) rfl (nI_1 (dpt tc i)) (by decide) rfl (fun ls hl => ?_)
              have e1 : evst (nmF x y z w) tc (i + 1) = nmF x y z w (tc i) :: evst (nmF x y z w) tc i := by show estep (nmF x y z w) (tc i) (evst (nmF x y z w) tc i) = _; unfold estep; rw [if_neg (by grind), if_pos (by grind)]
              have e2 : dpt tc (i + 1) = dpt tc i + 1 := by show dstep (tc i) (dpt tc i) = _; unfold dstep; rw [if_pos (by grind)]
              have hl : lv_has ls 9 [(6, .int (nI (dpt tc (i + 1)))), (8, .int (tc i)), (0, .ref a), (1, .int (nI t)), (2, .int x), (3, .int y), (4, .int z), (5, .int w), (7, .int (nI i))] := by rw [e2]; exact hl
              have hpr2 : PR (upd pl (dpt tc i) (nmF x y z w (tc i))) (evst (nmF x y z w) tc (i + 1)) := by rw [e1]; exact hpr.push hln
              refine lv_goto (tgt := 188) hx hb dX7_gives_111 (by decide) ?_
              refine lv_iinc (v := nI (i + 1)) (lv' := [(7, .int (nI (i + 1))), (6, .int (nI (dpt tc (i + 1)))), (8, .int (tc i)), (0, .ref a), (1, .int (nI t)), (2, .int x), (3, .int y), (4, .int z), (5, .int w)]) hx hb dX7_gives_188 hl (k := 8) rfl (nI_1 i) (by decide) rfl (fun ls hl => ?_)
              refine lv_goto (tgt := 6) hx hb dX7_gives_191 (by decide) ?_
              exact ih6 (i + 1) (upd pl (dpt tc i) (nmF x y z w (tc i))) (by omega) (by omega) hpr2 _ _ _ hw (lv_sub hl [3, 4, 5, 6, 7, 8, 1, 0] rfl)
        · refine lv_aload_n hx hb dX7_gives_39 rfl (lv_at hl 1 rfl) ?_
          refine s_get (v := .ref (ad 9)) fb7 cf hw 0 rfl 9 rfl q930 (hf.2 9 rfl) dX7_gives_40 ?_
          refine lv_iload hx hb dX7_gives_43 (lv_at hl 7 rfl) ?_
          refine lv_iload hx hb dX7_gives_45 (lv_at hl 0 rfl) ?_
          refine s_iast (j := (dpt tc i)) cf hw 3 rfl (rfl) (by omega) rfl dX7_gives_47 (fun H locs hw => ?_)
          have hw : WD g A s H locs [bO a 7 fs, bI g (ad 5) 1344 cdf, bI g (ad 7) 14 sf, bI g (ad 9) 96 (upd pl (dpt tc i) (tc i))] := hw
          refine lv_iinc (v := nI ((dpt tc i) + 1)) (lv' := [(6, .int (nI ((dpt tc i) + 1))), (8, .int (tc i)), (0, .ref a), (1, .int (nI t)), (2, .int x), (3, .int y), (4, .int z), (5, .int w), (7, .int (nI i))]) hx hb dX7_gives_48 hl (k := 7) rfl (nI_1 (dpt tc i)) (by decide) rfl (fun ls hl => ?_)
          have e1 : evst (nmF x y z w) tc (i + 1) = tc i :: evst (nmF x y z w) tc i := by show estep (nmF x y z w) (tc i) (evst (nmF x y z w) tc i) = _; unfold estep; rw [if_pos (by grind)]
          have e2 : dpt tc (i + 1) = dpt tc i + 1 := by show dstep (tc i) (dpt tc i) = _; unfold dstep; rw [if_pos (by grind)]
          have hl : lv_has ls 9 [(6, .int (nI (dpt tc (i + 1)))), (8, .int (tc i)), (0, .ref a), (1, .int (nI t)), (2, .int x), (3, .int y), (4, .int z), (5, .int w), (7, .int (nI i))] := by rw [e2]; exact hl
          have hpr2 : PR (upd pl (dpt tc i) (tc i)) (evst (nmF x y z w) tc (i + 1)) := by rw [e1]; exact hpr.push hln
          refine lv_goto (tgt := 188) hx hb dX7_gives_51 (by decide) ?_
          refine lv_iinc (v := nI (i + 1)) (lv' := [(7, .int (nI (i + 1))), (6, .int (nI (dpt tc (i + 1)))), (8, .int (tc i)), (0, .ref a), (1, .int (nI t)), (2, .int x), (3, .int y), (4, .int z), (5, .int w)]) hx hb dX7_gives_188 hl (k := 8) rfl (nI_1 i) (by decide) rfl (fun ls hl => ?_)
          refine lv_goto (tgt := 6) hx hb dX7_gives_191 (by decide) ?_
          exact ih6 (i + 1) (upd pl (dpt tc i) (tc i)) (by omega) (by omega) hpr2 _ _ _ hw (lv_sub hl [3, 4, 5, 6, 7, 8, 1, 0] rfl)
  exact L6 (len + 1) 0 pl (by omega) (by omega) PR.nil _ _ _ hw (lv_sub hl [2, 3, 4, 5, 6, 7, 1, 0] rfl)
