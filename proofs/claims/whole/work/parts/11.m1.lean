set_option maxRecDepth 100000 in
set_option maxHeartbeats 4000000 in
theorem m_in {l : Launch} {g : GG} (x lo hi : Int32) : Ct l g yX7_in cX7_in 6 (Option.some Jvm.ClassFile.FieldType.boolean) 0 0 0 [.long x.toInt64, .long lo.toInt64, .long hi.toInt64] [] (QI g (fun r (_ : Unit) => r = if lo ≤ x ∧ x ≤ hi then 1 else 0) (fun _ => [])) := by
  refine Ct.of (by decide) rfl ?_
  intro p e s m args below meth c A H locs ls Qf cf hr hlk hnm hQ hw hl
  have hx := cf.1
  have hb := cf.2.1
  have hml := cf.2.2.1
  have hown := cf.2.2.2.1
  have hts := cf.2.2.2.2
  have hw : WD g A s H locs [] := hw
  have hl : lv_has ls 6 [(0, .long x.toInt64), (2, .long lo.toInt64), (4, .long hi.toInt64)] := hl
  refine lv_lload_n hx hb dX7_in_0 rfl (lv_at hl 0 rfl) ?_
  refine lv_lload_n hx hb dX7_in_1 rfl (lv_at hl 1 rfl) ?_
  refine W.lcmp hx hb dX7_in_2 ?_
  refine lv_if_lt (tgt := 17) hx hb dX7_in_3 (by decide) (fun c3 => ?_) (fun c3 => ?_)
  · refine lv_iconst (v := 0) hx hb dX7_in_17 (by decide) ?_
    exact s_zret cf hr hlk () hw (by have q0 := lcmp_lt (x := x) (y := lo); have q1 := lcmp_gt (x := x) (y := hi); grind) rfl (Nat.le_of_ble_eq_true rfl) (Nat.le_of_ble_eq_true rfl) dX7_in_18 hQ
  · refine lv_lload_n hx hb dX7_in_6 rfl (lv_at hl 0 rfl) ?_
    refine lv_lload hx hb dX7_in_7 (lv_at hl 2 rfl) ?_
    refine W.lcmp hx hb dX7_in_9 ?_
    refine lv_if_gt (tgt := 17) hx hb dX7_in_10 (by decide) (fun c10 => ?_) (fun c10 => ?_)
    · refine lv_iconst (v := 0) hx hb dX7_in_17 (by decide) ?_
      exact s_zret cf hr hlk () hw (by have q0 := lcmp_lt (x := x) (y := lo); have q1 := lcmp_gt (x := x) (y := hi); grind) rfl (Nat.le_of_ble_eq_true rfl) (Nat.le_of_ble_eq_true rfl) dX7_in_18 hQ
    · refine lv_iconst (v := 1) hx hb dX7_in_13 (by decide) ?_
      refine lv_goto (tgt := 18) hx hb dX7_in_14 (by decide) ?_
      exact s_zret cf hr hlk () hw (by have q0 := lcmp_lt (x := x) (y := lo); have q1 := lcmp_gt (x := x) (y := hi); grind) rfl (Nat.le_of_ble_eq_true rfl) (Nat.le_of_ble_eq_true rfl) dX7_in_18 hQ
set_option maxRecDepth 100000 in
set_option maxHeartbeats 4000000 in
theorem m_held {l : Launch} {g : GG} (v lo hi : Int32) : Ct l g yX7_held cX7_held 3 (Option.some Jvm.ClassFile.FieldType.int) 0 0 0 [.int v, .int lo, .int hi] [] (QI g (fun r (_ : Unit) => r = held v lo hi) (fun _ => [])) := by
  refine Ct.of (by decide) rfl ?_
  intro p e s m args below meth c A H locs ls Qf cf hr hlk hnm hQ hw hl
  have hx := cf.1
  have hb := cf.2.1
  have hml := cf.2.2.1
  have hown := cf.2.2.2.1
  have hts := cf.2.2.2.2
  have hw : WD g A s H locs [] := hw
  have hl : lv_has ls 3 [(0, .int v), (1, .int lo), (2, .int hi)] := hl
  refine lv_iload_n hx hb dX7_held_0 rfl (lv_at hl 0 rfl) ?_
  refine lv_iload_n hx hb dX7_held_1 rfl (lv_at hl 1 rfl) ?_
  refine lv_icmp_ge (tgt := 9) hx hb dX7_held_2 (by decide) (fun c2 => ?_) (fun c2 => ?_)
  · refine lv_iload_n hx hb dX7_held_9 rfl (lv_at hl 0 rfl) ?_
    refine lv_iload_n hx hb dX7_held_10 rfl (lv_at hl 2 rfl) ?_
    refine lv_icmp_le (tgt := 18) hx hb dX7_held_11 (by decide) (fun c11 => ?_) (fun c11 => ?_)
    · refine lv_iload_n hx hb dX7_held_18 rfl (lv_at hl 0 rfl) ?_
      exact s_iret cf hr hlk () hw (by grind [held]) (Nat.le_of_ble_eq_true rfl) (Nat.le_of_ble_eq_true rfl) dX7_held_19 hQ
    · refine lv_iload_n hx hb dX7_held_14 rfl (lv_at hl 2 rfl) ?_
      refine lv_goto (tgt := 19) hx hb dX7_held_15 (by decide) ?_
      exact s_iret cf hr hlk () hw (by grind [held]) (Nat.le_of_ble_eq_true rfl) (Nat.le_of_ble_eq_true rfl) dX7_held_19 hQ
  · refine lv_iload_n hx hb dX7_held_5 rfl (lv_at hl 1 rfl) ?_
    refine lv_goto (tgt := 19) hx hb dX7_held_6 (by decide) ?_
    exact s_iret cf hr hlk () hw (by grind [held]) (Nat.le_of_ble_eq_true rfl) (Nat.le_of_ble_eq_true rfl) dX7_held_19 hQ
set_option maxRecDepth 100000 in
set_option maxHeartbeats 4000000 in
theorem m_size {l : Launch} {g : GG} (v : Int32) : Ct l g yX7_size cX7_size 1 (Option.some Jvm.ClassFile.FieldType.int) 0 0 0 [.int v] [] (QI g (fun r (_ : Unit) => r = sizeF v) (fun _ => [])) := by
  refine Ct.of (by decide) rfl ?_
  intro p e s m args below meth c A H locs ls Qf cf hr hlk hnm hQ hw hl
  have hx := cf.1
  have hb := cf.2.1
  have hml := cf.2.2.1
  have hown := cf.2.2.2.1
  have hts := cf.2.2.2.2
  have hw : WD g A s H locs [] := hw
  have hl : lv_has ls 1 [(0, .int v)] := hl
  refine lv_iload_n hx hb dX7_size_0 rfl (lv_at hl 0 rfl) ?_
  refine lv_if_ge (tgt := 9) hx hb dX7_size_1 (by decide) (fun c1 => ?_) (fun c1 => ?_)
  · refine lv_iload_n hx hb dX7_size_9 rfl (lv_at hl 0 rfl) ?_
    exact s_iret cf hr hlk () hw (by grind [sizeF]) (Nat.le_of_ble_eq_true rfl) (Nat.le_of_ble_eq_true rfl) dX7_size_10 hQ
  · refine lv_iload_n hx hb dX7_size_4 rfl (lv_at hl 0 rfl) ?_
    refine lv_ineg hx hb dX7_size_5 ?_
    refine lv_goto (tgt := 10) hx hb dX7_size_6 (by decide) ?_
    exact s_iret cf hr hlk () hw (by grind [sizeF]) (Nat.le_of_ble_eq_true rfl) (Nat.le_of_ble_eq_true rfl) dX7_size_10 hQ
set_option maxRecDepth 100000 in
set_option maxHeartbeats 4000000 in
theorem m_of {l : Launch} {g : GG} {a : Nat} {ad : Nat → Nat} {fs : List Value} (hf : MF ad fs) {d : Nat → Int32} (h w : Nat) (hh : 10 + 5 * h + w < 60) : Ct l g yX7_of cX7_of 3 (Option.some Jvm.ClassFile.FieldType.int) 0 0 0 [.ref a, .int (nI h), .int (nI w)] [bO a 7 fs, bI g (ad 0) 60 d] (QI g (fun r (_ : Unit) => r = d (10 + 5 * h + w)) (fun _ => [bO a 7 fs, bI g (ad 0) 60 d])) := by
  refine Ct.of (by decide) rfl ?_
  intro p e s m args below meth c A H locs ls Qf cf hr hlk hnm hQ hw hl
  have hx := cf.1
  have hb := cf.2.1
  have hml := cf.2.2.1
  have hown := cf.2.2.2.1
  have hts := cf.2.2.2.2
  have hw : WD g A s H locs [bO a 7 fs, bI g (ad 0) 60 d] := hw
  have hl : lv_has ls 3 [(0, .ref a), (1, .int (nI h)), (2, .int (nI w))] := hl
  refine lv_aload_n hx hb dX7_of_0 rfl (lv_at hl 0 rfl) ?_
  refine s_get (v := .ref (ad 0)) fb7 cf hw 0 rfl 0 rfl q921 (hf.2 0 rfl) dX7_of_1 ?_
  refine lv_bipush (v := 10) hx hb dX7_of_4 (by decide) ?_
  refine lv_iconst (v := 5) hx hb dX7_of_6 (by decide) ?_
  refine lv_iload_n hx hb dX7_of_7 rfl (lv_at hl 1 rfl) ?_
  refine lv_imul hx hb dX7_of_8 ?_
  refine lv_iadd hx hb dX7_of_9 ?_
  refine lv_iload_n hx hb dX7_of_10 rfl (lv_at hl 2 rfl) ?_
  refine lv_iadd hx hb dX7_of_11 ?_
  refine s_iald (j := (10 + 5 * h + w)) cf hw 1 rfl (ix5 h w) hh rfl dX7_of_12 ?_
  exact s_iret cf hr hlk () hw rfl (Nat.le_of_ble_eq_true rfl) (Nat.le_of_ble_eq_true rfl) dX7_of_13 hQ
