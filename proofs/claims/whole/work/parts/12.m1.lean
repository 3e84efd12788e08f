set_option maxRecDepth 100000 in
set_option maxHeartbeats 4000000 in
theorem m_in {l : Launch} {g : GG} (x lo hi : Int32) : Ct l g yX7_in cX7_in 6 (Option.some Jvm.ClassFile.FieldType.boolean) 0 0 0 [.long x.toInt64, .long lo.toInt64, .long hi.toInt64] [] (QI g (fun r (_ : Unit) => r = if lo ≤ x ∧ x ≤ hi then 1 else 0) (fun _ => [])) := by
  refine Ct.of (by decide) rfl ?_
  intro p e s m args below meth c A H locs ls Qf cf hr hlk hnm hQ hw hl
  have hx := cf.1
  have hb := cf.2.1
  have hml := cf.2.2.1
  have hown := cf.2.2.2.1
  have hts := cf.2.2.2.2
  have hw : WD g A s H locs [] := hw
  have hl : lv_has ls 6 [(0, .long x.toInt64), (2, .long lo.toInt64), (4, .long hi.toInt64)] := hl
  refine lv_lload_n hx hb dX7_in_0 rfl (lv_at hl 0 rfl) ?_
  refine lv_lload_n hx hb dX7_in_1 rfl (lv_at hl 1 rfl) ?_
  refine W.lcmp hx hb dX7_in_2 ?_
  refine lv_if_lt (tgt := 17) hx hb dX7_in_3 (by decide) (fun c3 => ?_) (fun c3 => ?_)
  · refine lv_iconst (v := 0) hx hb dX7_in_17 (by decide) ?_
    exact s_zret cf hr hlk () hw (by have q0 := lcmp_lt (x := x) (y := lo); have q1 := lcmp_gt (x := x) (y := hi); grind) rfl (Nat.le_of_ble_eq_true rfl) (Nat.le_of_ble_eq_true rfl) dX7_in_18 hQ
  · refine lv_lload_n hx hb dX7_in_6 rfl (lv_at hl 0 rfl) ?_
    refine lv_lload hx hb dX7_in_7 (lv_at hl 2 rfl) ?_
    refine W.lcmp hx hb dX7_in_9 ?_
    refine lv_if_gt (tgt := 17) hx hb dX7_in_10 (by decide) (fun c10 => ?_) (fun c10 => ?_)
    · refine lv_iconst (v := 0) hx hb dX7_in_17 (by decide) ?_
      exact s_zret cf hr hlk () hw (by have q0 := lcmp_lt (x := x) (y := lo); have q1 := lcmp_gt (x := x) (y := hi); grind) rfl (Nat.le_of_ble_eq_true rfl) (Nat.le_of_ble_eq_true rfl) dX7_in_18 hQ
    · refine lv_iconst (v := 1) hx hb dX7_in_13 (by decide) ?_
      refine lv_goto (tgt := 18) hx hb dX7_in_14 (by decide) ?_
      exact s_zret cf hr hlk () hw (by have q0 := lcmp_lt (x := x) (y := lo); have q1 := lcmp_gt (x := x) (y := hi); grind) rfl (Nat.le_of_ble_eq_true rfl) (Nat.le_of_ble_eq_true rfl) dX7_in_18 hQ
set_option maxRecDepth 100000 in
set_option maxHeartbeats 4000000 in
theorem m_held {l : Launch} {g : GG} (v lo hi : Int32) : Ct l g yX7_held cX7_held 3 (Option.some Jvm.ClassFile.FieldType.int) 0 0 0 [.int v, .int lo, .int hi] [] (QI g (fun r (_ : Unit) => r = held v lo hi) (fun _ => [])) := by
  refine Ct.of (by decide) rfl ?_
  intro p e s m args below meth c A H locs ls Qf cf hr hlk hnm hQ hw hl
  have hx := cf.1
  have hb := cf.2.1
  have hml := cf.2.2.1
  have hown := cf.2.2.2.1
  have hts := cf.2.2.2.2
  have hw : WD g A s H locs [] := hw
  have hl : lv_has ls 3 [(0, .int v), (1, .int lo), (2, .int hi)] := hl
  refine lv_iload_n hx hb dX7_held_0 rfl (lv_at hl 0 rfl) ?_
  refine lv_iload_n hx hb dX7_held_1 rfl (lv_at hl 1 rfl) ?_
  refine lv_icmp_ge (tgt := 9) hx hb dX7_held_2 (by decide) (fun c2 => ?_) (fun c2 => ?_)
  · refine lv_iload_n hx hb dX7_held_9 rfl (lv_at hl 0 rfl) ?_
    refine lv_iload_n hx hb dX7_held_10 rfl (lv_at hl 2 rfl) ?_
    refine lv_icmp_le (tgt := 18) hx hb dX7_held_11 (by decide) (fun c11 => ?_) (fun c11 => ?_)
    · refine lv_iload_n hx hb dX7_held_18 rfl (lv_at hl 0 rfl) ?_
      exact s_iret cf hr hlk () hw (by grind [held]) (Nat.le_of_ble_eq_true rfl) (Nat.le_of_ble_eq_true rfl) dX7_held_19 hQ
    · refine lv_iload_n hx hb dX7_held_14 rfl (lv_at hl 2 rfl) ?_
      refine lv_goto (tgt := 19) hx hb dX7_held_15 (by decide) ?_
      exact s_iret cf hr hlk () hw (by grind [held]) (Nat.le_of_ble_eq_true rfl) (Nat.le_of_ble_eq_true rfl) dX7_held_19 hQ
  · refine lv_iload_n hx hb dX7_held_5 rfl (lv_at hl 1 rfl) ?_
    refine lv_goto (tgt := 19) hx hb dX7_held_6 (by decide) ?_
    exact s_iret cf hr hlk () hw (by grind [held]) (Nat.le_of_ble_eq_true rfl) (Nat.le_of_ble_eq_true rfl) dX7_held_19 hQ
set_option maxRecDepth 100000 in
set_option maxHeartbeats 4000000 in
theorem m_size {l : Launch} {g : GG} (v : Int32) : Ct l g yX7_size cX7_size 1 (Option.some Jvm.ClassFile.FieldType.int) 0 0 0 [.int v] [] (QI g (fun r (_ : Unit) => r = sizeF v) (fun _ => [])) := by
  refine Ct.of (by decide) rfl ?_
  intro p e s m args below meth c A H locs ls Qf cf hr hlk hnm hQ hw hl
  have hx := cf.1
  have hb := cf.2.1
  have hml := cf.2.2.1
  have hown := cf.2.2.2.1
  have hts := cf.2.2.2.2
  have hw : WD g A s H locs [] := hw
  have hl : lv_has ls 1 [(0, .int v)] := hl
  refine lv_iload_n hx hb dX7_size_0 rfl (lv_at hl 0 rfl) ?_
  refine lv_if_ge (tgt := 9) hx hb dX7_size_1 (by decide) (fun c1 => ?_) (fun c1 => ?_)
  · refine lv_iload_n hx hb dX7_size_9 rfl (lv_at hl 0 rfl) ?_
    exact s_iret cf hr hlk () hw (by grind [sizeF]) (Nat.le_of_ble_eq_true rfl) (Nat.le_of_ble_eq_true rfl) dX7_size_10 hQ
  · refine lv_iload_n hx hb dX7_size_4 rfl (lv_at hl 0 rfl) ?_
    refine lv_ineg hx hb dX7_size_5 ?_
    refine lv_goto (tgt := 10) hx hb dX7_size_6 (by decide) ?_
    exact s_iret cf hr hlk () hw (by grind [sizeF]) (Nat.le_of_ble_eq_true rfl) (Nat.le_of_ble_eq_true rfl) dX7_size_10 hQ
set_option maxRecDepth 100000 in
set_option maxHeartbeats 4000000 in
theorem m_copies {l : Launch} {g : GG} {x y : Nat} {f t : DD} : Ct l g yX7_copies cX7_copies 3 (Option.none : Option Jvm.ClassFile.FieldType) 0 0 0 [.ref x, .ref y] [bI g x 60 f, bI g y 60 t] (QV g (fun (_ : Unit) => True) (fun _ => [bI g x 60 f, bI g y 60 f])) := by
  refine Ct.of (by decide) rfl ?_
  intro p e s m args below meth c A H locs ls Qf cf hr hlk hnm hQ hw hl
  have hx := cf.1
  have hb := cf.2.1
  have hml := cf.2.2.1
  have hown := cf.2.2.2.1
  have hts := cf.2.2.2.2
  have hw : WD g A s H locs [bI g x 60 f, bI g y 60 t] := hw
  have hl : lv_has ls 3 [(0, .ref x), (1, .ref y)] := hl
  refine lv_iconst (v := 0) hx hb dX7_copies_0 (by decide) ?_
  refine lv_istore_n (lv' := [(2, .int 0), (0, .ref x), (1, .ref y)]) hx hb dX7_copies_1 rfl hl (by decide) rfl (fun ls hl => ?_)
  have L2 : ∀ (fu : Nat) (i : Nat), (i ≤ 60) → (60 < i + fu) → ∀ (H : Heap) (locs : List Loc) (ls : Array Slot), WD g A s H locs [bI g x 60 f, bI g y 60 (fun j => if j < i then f j else t j)] → lv_has ls 3 [(0, .ref x), (1, .ref y), (2, .int (nI i))] → W p l e (rmx 0 0 0) s m args below meth c H locs 0 0 Qf (F0 m 2 ls []) := by
    intro fu
    induction fu with
    | zero => intro i hi hfu; exfalso; omega
    | succ fu ih2 =>
      intro i hi hfu H locs ls hw hl
      refine lv_iload_n hx hb dX7_copies_2 rfl (lv_at hl 2 rfl) ?_
      refine lv_bipush (v := 60) hx hb dX7_copies_3 (by decide) ?_
      refine lv_icmp_ge (tgt := 20) hx hb dX7_copies_5 (by decide) (fun c5 => ?_) (fun c5 => ?_)
      · have hi2 : 60 ≤ i := nI_le_of (by omega) c5 (by omega)
        have hw : WD g A s H locs [bI g x 60 f, bI g y 60 f] := hw.cong 1 rfl (fun j hj => by rw [if_pos (by omega)])
        exact s_vret cf hr hlk () hw trivial (Nat.le_of_ble_eq_true rfl) (Nat.le_of_ble_eq_true rfl) dX7_copies_20 hQ
      · have hlt : i < 60 := nI_lt_of (by omega) c5 (by omega)
        refine lv_aload_n hx hb dX7_copies_8 rfl (lv_at hl 1 rfl) ?_
        refine lv_iload_n hx hb dX7_copies_9 rfl (lv_at hl 2 rfl) ?_
        refine lv_aload_n hx hb dX7_copies_10 rfl (lv_at hl 0 rfl) ?_
        refine lv_iload_n hx hb dX7_copies_11 rfl (lv_at hl 2 rfl) ?_
        refine s_iald (j := i) cf hw 0 rfl (rfl) (by omega) rfl dX7_copies_12 ?_
        refine s_iast (j := i) cf hw 1 rfl (rfl) (by omega) rfl dX7_copies_13 (fun H locs hw => ?_)
        have hw : WD g A s H locs [bI g x 60 f, bI g y 60 (upd (fun j => if j < i then f j else t j) i (f i))] := hw
        have hw : WD g A s H locs [bI g x 60 f, bI g y 60 (fun j => if j < i + 1 then f j else t j)] := by have q : upd (fun j => if j < i then f j else t j) i (f i) = (fun j => if j < i + 1 then f j else t j) := (by funext j; unfold upd; grind); rw [← q]; exact hw
        refine lv_iinc (v := nI (i + 1)) (lv' := [(2, .int (nI (i + 1))), (0, .ref x), (1, .ref y)]) hx hb dX7_copies_14 hl (k := 2) rfl (nI_1 i) (by decide) rfl (fun ls hl => ?_)
        refine lv_goto (tgt := 2) hx hb dX7_copies_17 (by decide) ?_
        exact ih2 (i + 1) (by omega) (by omega) _ _ _ hw (lv_sub hl [1, 2, 0] rfl)
  exact L2 61 0 (by omega) (by omega) _ _ _ hw (lv_sub hl [1, 2, 0] rfl)
set_option maxRecDepth 100000 in
set_option maxHeartbeats 4000000 in
theorem m_isHouse {l : Launch} {g : GG} {a : Nat} {ad : Nat → Nat} {fs : List Value} (hf : MF ad fs) {d : DD} (h : Int32) : Ct l g yX7_isHouse cX7_isHouse 2 (Option.some Jvm.ClassFile.FieldType.boolean) 1 0 0 [.ref a, .int h] [bO a 7 fs, bI g (ad 0) 60 d] (QI g (fun r (_ : Unit) => r = if 0 ≤ h ∧ h ≤ d 0 - 1 then 1 else 0) (fun _ => [bO a 7 fs, bI g (ad 0) 60 d])) := by
  refine Ct.of (by decide) rfl ?_
  intro p e s m args below meth c A H locs ls Qf cf hr hlk hnm hQ hw hl
  have hx := cf.1
  have hb := cf.2.1
  have hml := cf.2.2.1
  have hown := cf.2.2.2.1
  have hts := cf.2.2.2.2
  have hw : WD g A s H locs [bO a 7 fs, bI g (ad 0) 60 d] := hw
  have hl : lv_has ls 2 [(0, .ref a), (1, .int h)] := hl
  refine lv_iload_n hx hb dX7_isHouse_0 rfl (lv_at hl 1 rfl) ?_
  refine lv_i2l (v := (h : Int32).toInt64) hx hb dX7_isHouse_1 rfl ?_
  refine lv_lconst (v := (0 : Int32).toInt64) hx hb dX7_isHouse_2 (by decide) ?_
  refine lv_aload_n hx hb dX7_isHouse_3 rfl (lv_at hl 0 rfl) ?_
  refine s_get (v := .ref (ad 0)) fb7 cf hw 0 rfl 0 rfl q921 (hf.2 0 rfl) dX7_isHouse_4 ?_
  refine lv_iconst (v := 0) hx hb dX7_isHouse_7 (by decide) ?_
  refine s_iald (j := 0) cf hw 1 rfl (rfl) (by decide) rfl dX7_isHouse_8 ?_
  refine lv_iconst (v := 1) hx hb dX7_isHouse_9 (by decide) ?_
  refine lv_isub hx hb dX7_isHouse_10 ?_
  refine lv_i2l (v := ((d 0) - 1 : Int32).toInt64) hx hb dX7_isHouse_11 rfl ?_
  refine s_calli (runS cf (m_in (h : Int32) (0 : Int32) ((d 0) - 1 : Int32)) hw [] (by decide) rfl km_X7_in ks_X7_in q1045 rfl rfl hl.1 rfl dX7_isHouse_12) hw [] (by decide) rfl (fun _ => rfl) (fun r_3 u_1 H locs hp_2 hw => ?_)
  have hw : WD g A s H locs [bO a 7 fs, bI g (ad 0) 60 d] := hw
  subst hp_2
  exact s_zret cf hr hlk () hw rfl (by split <;> rfl) (Nat.le_of_ble_eq_true rfl) (Nat.le_of_ble_eq_true rfl) dX7_isHouse_15 hQ
set_option maxRecDepth 100000 in
set_option maxHeartbeats 4000000 in
theorem m_of {l : Launch} {g : GG} {a : Nat} {ad : Nat → Nat} {fs : List Value} (hf : MF ad fs) {d : DD} (h w : Nat) (hh : 10 + 5 * h + w < 60) : Ct l g yX7_of cX7_of 3 (Option.some Jvm.ClassFile.FieldType.int) 0 0 0 [.ref a, .int (nI h), .int (nI w)] [bO a 7 fs, bI g (ad 0) 60 d] (QI g (fun r (_ : Unit) => r = d (10 + 5 * h + w)) (fun _ => [bO a 7 fs, bI g (ad 0) 60 d])) := by
  refine Ct.of (by decide) rfl ?_
  intro p e s m args below meth c A H locs ls Qf cf hr hlk hnm hQ hw hl
  have hx := cf.1
  have hb := cf.2.1
  have hml := cf.2.2.1
  have hown := cf.2.2.2.1
  have hts := cf.2.2.2.2
  have hw : WD g A s H locs [bO a 7 fs, bI g (ad 0) 60 d] := hw
  have hl : lv_has ls 3 [(0, .ref a), (1, .int (nI h)), (2, .int (nI w))] := hl
  refine lv_aload_n hx hb dX7_of_0 rfl (lv_at hl 0 rfl) ?_
  refine s_get (v := .ref (ad 0)) fb7 cf hw 0 rfl 0 rfl q921 (hf.2 0 rfl) dX7_of_1 ?_
  refine lv_bipush (v := 10) hx hb dX7_of_4 (by decide) ?_
  refine lv_iconst (v := 5) hx hb dX7_of_6 (by decide) ?_
  refine lv_iload_n hx hb dX7_of_7 rfl (lv_at hl 1 rfl) ?_
  refine lv_imul hx hb dX7_of_8 ?_
  refine lv_iadd hx hb dX7_of_9 ?_
  refine lv_iload_n hx hb dX7_of_10 rfl (lv_at hl 2 rfl) ?_
  refine lv_iadd hx hb dX7_of_11 ?_
  refine s_iald (j := (10 + 5 * h + w)) cf hw 1 rfl (ix5 h w) hh rfl dX7_of_12 ?_
  exact s_iret cf hr hlk () hw rfl (Nat.le_of_ble_eq_true rfl) (Nat.le_of_ble_eq_true rfl) dX7_of_13 hQ
set_option maxRecDepth 100000 in
set_option maxHeartbeats 4000000 in
theorem m_sets {l : Launch} {g : GG} {a : Nat} {ad : Nat → Nat} {fs : List Value} (hf : MF ad fs) {d : DD} (h w : Nat) (v : Int32) (hh : 10 + 5 * h + w < 60) : Ct l g yX7_sets cX7_sets 4 (Option.none : Option Jvm.ClassFile.FieldType) 0 0 0 [.ref a, .int (nI h), .int (nI w), .int v] [bO a 7 fs, bI g (ad 0) 60 d] (QV g (fun (_ : Unit) => True) (fun _ => [bO a 7 fs, bI g (ad 0) 60 (upd d (10 + 5 * h + w) v)])) := by
  refine Ct.of (by decide) rfl ?_
  intro p e s m args below meth c A H locs ls Qf cf hr hlk hnm hQ hw hl
  have hx := cf.1
  have hb := cf.2.1
  have hml := cf.2.2.1
  have hown := cf.2.2.2.1
  have hts := cf.2.2.2.2
  have hw : WD g A s H locs [bO a 7 fs, bI g (ad 0) 60 d] := hw
  have hl : lv_has ls 4 [(0, .ref a), (1, .int (nI h)), (2, .int (nI w)), (3, .int v)] := hl
  refine lv_aload_n hx hb dX7_sets_0 rfl (lv_at hl 0 rfl) ?_
  refine s_get (v := .ref (ad 0)) fb7 cf hw 0 rfl 0 rfl q921 (hf.2 0 rfl) dX7_sets_1 ?_
  refine lv_bipush (v := 10) hx hb dX7_sets_4 (by decide) ?_
  refine lv_iconst (v := 5) hx hb dX7_sets_6 (by decide) ?_
  refine lv_iload_n hx hb dX7_sets_7 rfl (lv_at hl 1 rfl) ?_
  refine lv_imul hx hb dX7_sets_8 ?_
  refine lv_iadd hx hb dX7_sets_9 ?_
  refine lv_iload_n hx hb dX7_sets_10 rfl (lv_at hl 2 rfl) ?_
  refine lv_iadd hx hb dX7_sets_11 ?_
  refine lv_iload_n hx hb dX7_sets_12 rfl (lv_at hl 3 rfl) ?_
  refine s_iast (j := (10 + 5 * h + w)) cf hw 1 rfl (ix5 h w) hh rfl dX7_sets_13 (fun H locs hw => ?_)
  have hw : WD g A s H locs [bO a 7 fs, bI g (ad 0) 60 (upd d (10 + 5 * h + w) v)] := hw
  exact s_vret cf hr hlk () hw trivial (Nat.le_of_ble_eq_true rfl) (Nat.le_of_ble_eq_true rfl) dX7_sets_14 hQ
set_option maxRecDepth 100000 in
set_option maxHeartbeats 4000000 in
theorem m_becomesAt {l : Launch} {g : GG} {a : Nat} {ad : Nat → Nat} {fs : List Value} (hf : MF ad fs) {d : DD} (w : Nat) (v : Int32) (hh : w < 60) : Ct l g yX7_becomesAt cX7_becomesAt 4 (Option.some Jvm.ClassFile.FieldType.int) 0 0 0 [.ref a, .int (nI w), .int v] [bO a 7 fs, bI g (ad 0) 60 d] (QI g (fun r (_ : Unit) => r = d w) (fun _ => [bO a 7 fs, bI g (ad 0) 60 (upd d w v)])) := by
  refine Ct.of (by decide) rfl ?_
  intro p e s m args below meth c A H locs ls Qf cf hr hlk hnm hQ hw hl
  have hx := cf.1
  have hb := cf.2.1
  have hml := cf.2.2.1
  have hown := cf.2.2.2.1
  have hts := cf.2.2.2.2
  have hw : WD g A s H locs [bO a 7 fs, bI g (ad 0) 60 d] := hw
  have hl : lv_has ls 4 [(0, .ref a), (1, .int (nI w)), (2, .int v)] := hl
  refine lv_aload_n hx hb dX7_becomesAt_0 rfl (lv_at hl 0 rfl) ?_
  refine s_get (v := .ref (ad 0)) fb7 cf hw 0 rfl 0 rfl q921 (hf.2 0 rfl) dX7_becomesAt_1 ?_
  refine lv_iload_n hx hb dX7_becomesAt_4 rfl (lv_at hl 1 rfl) ?_
  refine s_iald (j := w) cf hw 1 rfl (rfl) (by omega) rfl dX7_becomesAt_5 ?_
  refine lv_istore_n (lv' := [(3, .int (d w)), (0, .ref a), (1, .int (nI w)), (2, .int v)]) hx hb dX7_becomesAt_6 rfl hl (by decide) rfl (fun ls hl => ?_)
  refine lv_aload_n hx hb dX7_becomesAt_7 rfl (lv_at hl 1 rfl) ?_
  refine s_get (v := .ref (ad 0)) fb7 cf hw 0 rfl 0 rfl q921 (hf.2 0 rfl) dX7_becomesAt_8 ?_
  refine lv_iload_n hx hb dX7_becomesAt_11 rfl (lv_at hl 2 rfl) ?_
  refine lv_iload_n hx hb dX7_becomesAt_12 rfl (lv_at hl 3 rfl) ?_
  refine s_iast (j := w) cf hw 1 rfl (rfl) (by omega) rfl dX7_becomesAt_13 (fun H locs hw => ?_)
  have hw : WD g A s H locs [bO a 7 fs, bI g (ad 0) 60 (upd d w v)] := hw
  refine lv_iload_n hx hb dX7_becomesAt_14 rfl (lv_at hl 0 rfl) ?_
  exact s_iret cf hr hlk () hw rfl (Nat.le_of_ble_eq_true rfl) (Nat.le_of_ble_eq_true rfl) dX7_becomesAt_15 hQ
set_option maxRecDepth 100000 in
set_option maxHeartbeats 4000000 in
theorem m_ones {l : Launch} {g : GG} (x : Int32) : Ct l g yX7_ones cX7_ones 3 (Option.some Jvm.ClassFile.FieldType.int) 0 0 0 [.int x] [] (QI g (fun r (_ : Unit) => r = onesF x) (fun _ => [])) := by
  refine Ct.of (by decide) rfl ?_
  intro p e s m args below meth c A H locs ls Qf cf hr hlk hnm hQ hw hl
  have hx := cf.1
  have hb := cf.2.1
  have hml := cf.2.2.1
  have hown := cf.2.2.2.1
  have hts := cf.2.2.2.2
  have hw : WD g A s H locs [] := hw
  have hl : lv_has ls 3 [(0, .int x)] := hl
  refine lv_iconst (v := 0) hx hb dX7_ones_0 (by decide) ?_
  refine lv_istore_n (lv' := [(1, .int 0), (0, .int x)]) hx hb dX7_ones_1 rfl hl (by decide) rfl (fun ls hl => ?_)
  refine lv_iconst (v := 0) hx hb dX7_ones_2 (by decide) ?_
  refine lv_istore_n (lv' := [(2, .int 0), (1, .int 0), (0, .int x)]) hx hb dX7_ones_3 rfl hl (by decide) rfl (fun ls hl => ?_)
  have L4 : ∀ (fu : Nat) (i : Nat), (i ≤ 10) → (10 < i + fu) → ∀ (H : Heap) (locs : List Loc) (ls : Array Slot), WD g A s H locs [] → lv_has ls 3 [(0, .int x), (1, .int (itn (fun k n => n + (x >>> (nI k &&& 31) &&& 1)) i 0)), (2, .int (nI i))] → W p l e (rmx 0 0 0) s m args below meth c H locs 0 0 Qf (F0 m 4 ls []) := by
    intro fu
    induction fu with
    | zero => intro i hi hfu; exfalso; omega
    | succ fu ih4 =>
      intro i hi hfu H locs ls hw hl
      refine lv_iload_n hx hb dX7_ones_4 rfl (lv_at hl 2 rfl) ?_
      refine lv_bipush (v := 10) hx hb dX7_ones_5 (by decide) ?_
      refine lv_icmp_ge (tgt := 24) hx hb dX7_ones_7 (by decide) (fun c7 => ?_) (fun c7 => ?_)
      · have hi2 : i = 10 := by have := nI_le_of (n := 10) (by omega) c7 (by omega); omega
        subst hi2
        refine lv_iload_n hx hb dX7_ones_24 rfl (lv_at hl 1 rfl) ?_
        exact s_iret cf hr hlk () hw rfl (Nat.le_of_ble_eq_true rfl) (Nat.le_of_ble_eq_true rfl) dX7_ones_25 hQ
      · have hlt : i < 10 := nI_lt_of (n := 10) (by omega) c7 (by omega)
        refine lv_iload_n hx hb dX7_ones_10 rfl (lv_at hl 1 rfl) ?_
        refine lv_iload_n hx hb dX7_ones_11 rfl (lv_at hl 0 rfl) ?_
        refine lv_iload_n hx hb dX7_ones_12 rfl (lv_at hl 2 rfl) ?_
        refine lv_ishr hx hb dX7_ones_13 ?_
        refine lv_iconst (v := 1) hx hb dX7_ones_14 (by decide) ?_
        refine lv_iand hx hb dX7_ones_15 ?_
        refine lv_iadd hx hb dX7_ones_16 ?_
        refine lv_istore_n (lv' := [(1, .int ((itn (fun k n => n + (x >>> (nI k &&& 31) &&& 1)) i 0) + ((x >>> ((nI i) &&& 31)) &&& 1))), (0, .int x), (2, .int (nI i))]) hx hb dX7_ones_17 rfl hl (by decide) rfl (fun ls hl => ?_)
        refine lv_iinc (v := nI (i + 1)) (lv' := [(2, .int (nI (i + 1))), (1, .int ((itn (fun k n => n + (x >>> (nI k &&& 31) &&& 1)) i 0) + ((x >>> ((nI i) &&& 31)) &&& 1))), (0, .int x)]) hx hb dX7_ones_18 hl (k := 2) rfl (nI_1 i) (by decide) rfl (fun ls hl => ?_)
        refine lv_goto (tgt := 4) hx hb dX7_ones_21 (by decide) ?_
        exact ih4 (i + 1) (by omega) (by omega) _ _ _ hw (lv_sub hl [2, 1, 0] rfl)
  exact L4 11 0 (by omega) (by omega) _ _ _ hw (lv_sub hl [2, 1, 0] rfl)
