set_option maxRecDepth 100000 in
set_option maxHeartbeats 4000000 in
theorem m_isSign {l : Launch} {g : GG} {a : Nat} {ad : Nat → Nat} {ik ky wt : Int32} {tf : DD} {tp : Nat} (htp : tp ≤ 96) {o nn : Nat} (q : PS) (c_ : Int32) : Ct l g yX7_isSign cX7_isSign 2 (Option.some Jvm.ClassFile.FieldType.boolean) 0 0 0 [.ref a, .int c_] [bO a 7 (mF ad ik (nI tp) (nI (atA tf tp q.1)) (nI (bgA tf tp q.1)) (tkA tf tp q.1) (vaA tf tp q.1) (nI q.2.1.length) (nI q.2.2.1) ky (nI o) (nI nn) (if q.2.2.2 = true then 1 else 0) (nI (bwA tf tp q.1)) wt)] (QI g (fun r (_ : Unit) => r = if sgA tf tp c_ q then 1 else 0) (fun _ => [bO a 7 (mF ad ik (nI tp) (nI (atA tf tp q.1)) (nI (bgA tf tp q.1)) (tkA tf tp q.1) (vaA tf tp q.1) (nI q.2.1.length) (nI q.2.2.1) ky (nI o) (nI nn) (if q.2.2.2 = true then 1 else 0) (nI (bwA tf tp q.1)) wt)])) := by
  refine Ct.of (by decide) rfl ?_
  intro p e s m args below meth c A H locs ls Qf cf hr hlk hnm hQ hw hl
  have hx := cf.1
  have hb := cf.2.1
  have hml := cf.2.2.1
  have hown := cf.2.2.2.1
  have hts := cf.2.2.2.2
  have hw : WD g A s H locs [bO a 7 (mF ad ik (nI tp) (nI (atA tf tp q.1)) (nI (bgA tf tp q.1)) (tkA tf tp q.1) (vaA tf tp q.1) (nI q.2.1.length) (nI q.2.2.1) ky (nI o) (nI nn) (if q.2.2.2 = true then 1 else 0) (nI (bwA tf tp q.1)) wt)] := hw
  have hl : lv_has ls 2 [(0, .ref a), (1, .int c_)] := hl
  refine lv_aload_n hx hb dX7_isSign_0 rfl (lv_at hl 0 rfl) ?_
  refine s_get (v := .int (tkA tf tp q.1)) fb7 cf hw 0 rfl 14 rfl q935 rfl dX7_isSign_1 ?_
  refine lv_iconst (v := 3) hx hb dX7_isSign_4 (by decide) ?_
  refine lv_icmp_ne (tgt := 29) hx hb dX7_isSign_5 (by decide) (fun c5 => ?_) (fun c5 => ?_)
  · refine lv_iconst (v := 0) hx hb dX7_isSign_29 (by decide) ?_
    exact s_zret cf hr hlk () hw ((if_neg (fun z => c5 z.1)).symm) rfl (Nat.le_of_ble_eq_true rfl) (Nat.le_of_ble_eq_true rfl) dX7_isSign_30 hQ
  · refine lv_aload_n hx hb dX7_isSign_8 rfl (lv_at hl 0 rfl) ?_
    refine s_get (v := .long (vaA tf tp q.1)) fb7 cf hw 0 rfl 15 rfl q936 rfl dX7_isSign_9 ?_
    refine lv_iload_n hx hb dX7_isSign_12 rfl (lv_at hl 1 rfl) ?_
    refine lv_i2l (v := (c_ : Int32).toInt64) hx hb dX7_isSign_13 rfl ?_
    refine W.lcmp hx hb dX7_isSign_14 ?_
    refine lv_if_ne (tgt := 29) hx hb dX7_isSign_15 (by decide) (fun c15 => ?_) (fun c15 => ?_)
    · refine lv_iconst (v := 0) hx hb dX7_isSign_29 (by decide) ?_
      exact s_zret cf hr hlk () hw ((if_neg (fun z => c15 ((lg_cmp_eq _ _).mpr z.2.1))).symm) rfl (Nat.le_of_ble_eq_true rfl) (Nat.le_of_ble_eq_true rfl) dX7_isSign_30 hQ
    · refine lv_aload_n hx hb dX7_isSign_18 rfl (lv_at hl 0 rfl) ?_
      refine s_get (v := .int (if q.2.2.2 = true then 1 else 0)) fb7 cf hw 0 rfl 21 rfl q942 rfl dX7_isSign_19 ?_
      refine lv_if_ne (tgt := 29) hx hb dX7_isSign_22 (by decide) (fun c22 => ?_) (fun c22 => ?_)
      · have c22 := b01_n c22
        refine lv_iconst (v := 0) hx hb dX7_isSign_29 (by decide) ?_
        exact s_zret cf hr hlk () hw ((if_neg (fun z => z.2.2 c22)).symm) rfl (Nat.le_of_ble_eq_true rfl) (Nat.le_of_ble_eq_true rfl) dX7_isSign_30 hQ
      · have c22 := b01_z c22
        refine lv_iconst (v := 1) hx hb dX7_isSign_25 (by decide) ?_
        refine lv_goto (tgt := 30) hx hb dX7_isSign_26 (by decide) ?_
        exact s_zret cf hr hlk () hw ((if_pos ⟨c5, (lg_cmp_eq _ _).mp c15, c22⟩).symm) rfl (Nat.le_of_ble_eq_true rfl) (Nat.le_of_ble_eq_true rfl) dX7_isSign_30 hQ
set_option maxRecDepth 100000 in
set_option maxHeartbeats 4000000 in
theorem m_goesBy {l : Launch} {g : GG} {a : Nat} {ad : Nat → Nat} {ik ky wt : Int32} {tf : DD} {tp : Nat} (htp : tp ≤ 96) {o nn : Nat} (q : PS) (b : Int32) : Ct l g yX7_goesBy cX7_goesBy 2 (Option.none : Option Jvm.ClassFile.FieldType) 3 0 0 [.ref a, .int b] [bO a 7 (mF ad ik (nI tp) (nI (atA tf tp q.1)) (nI (bgA tf tp q.1)) (tkA tf tp q.1) (vaA tf tp q.1) (nI q.2.1.length) (nI q.2.2.1) ky (nI o) (nI nn) (if q.2.2.2 = true then 1 else 0) (nI (bwA tf tp q.1)) wt), bI g (ad 10) 96 tf] (QV g (fun (_ : Unit) => True) (fun _ => [bO a 7 (mF ad ik (nI tp) (nI (atA tf tp (goF (¬ b = 0) q).1)) (nI (bgA tf tp (goF (¬ b = 0) q).1)) (tkA tf tp (goF (¬ b = 0) q).1) (vaA tf tp (goF (¬ b = 0) q).1) (nI (goF (¬ b = 0) q).2.1.length) (nI (goF (¬ b = 0) q).2.2.1) ky (nI o) (nI nn) (if (goF (¬ b = 0) q).2.2.2 = true then 1 else 0) (nI (bwA tf tp (goF (¬ b = 0) q).1)) wt), bI g (ad 10) 96 tf])) := by
  refine Ct.of (by decide) rfl ?_
  intro p e s m args below meth c A H locs ls Qf cf hr hlk hnm hQ hw hl
  have hx := cf.1
  have hb := cf.2.1
  have hml := cf.2.2.1
  have hown := cf.2.2.2.1
  have hts := cf.2.2.2.2
  have hw : WD g A s H locs [bO a 7 (mF ad ik (nI tp) (nI (atA tf tp q.1)) (nI (bgA tf tp q.1)) (tkA tf tp q.1) (vaA tf tp q.1) (nI q.2.1.length) (nI q.2.2.1) ky (nI o) (nI nn) (if q.2.2.2 = true then 1 else 0) (nI (bwA tf tp q.1)) wt), bI g (ad 10) 96 tf] := hw
  have hl : lv_has ls 2 [(0, .ref a), (1, .int b)] := hl
  refine lv_aload_n hx hb dX7_goesBy_0 rfl (lv_at hl 0 rfl) ?_
  refine lv_aload_n hx hb dX7_goesBy_1 rfl (lv_at hl 0 rfl) ?_
  refine s_get (v := .int (if q.2.2.2 = true then 1 else 0)) fb7 cf hw 0 rfl 21 rfl q942 rfl dX7_goesBy_2 ?_
  refine lv_if_ne (tgt := 12) hx hb dX7_goesBy_5 (by decide) (fun c5 => ?_) (fun c5 => ?_)
  · have c5 := b01_n c5
    refine lv_iconst (v := 1) hx hb dX7_goesBy_12 (by decide) ?_
    refine lv_goto (tgt := 17) hx hb dX7_goesBy_13 (by decide) ?_
    refine s_put (v := .int 1) fb7 cf hw 0 rfl 21 rfl q942 rfl rfl rfl rfl dX7_goesBy_17 (fun H locs hw => ?_)
    have hw : WD g A s H locs [bO a 7 (mF ad ik (nI tp) (nI (atA tf tp q.1)) (nI (bgA tf tp q.1)) (tkA tf tp q.1) (vaA tf tp q.1) (nI q.2.1.length) (nI q.2.2.1) ky (nI o) (nI nn) 1 (nI (bwA tf tp q.1)) wt), bI g (ad 10) 96 tf] := hw
    refine lv_aload_n hx hb dX7_goesBy_20 rfl (lv_at hl 0 rfl) ?_
    refine s_get (v := .int 1) fb7 cf hw 0 rfl 21 rfl q942 rfl dX7_goesBy_21 ?_
    refine lv_if_ne (tgt := 31) hx hb dX7_goesBy_24 (by decide) (fun c24 => ?_) (fun c24 => ?_)
    · exact s_vret cf hr hlk () (by rw [show goF (¬ b = 0) q = (q.1, q.2.1, q.2.2.1, true) from if_pos (Or.inl c5)]; exact hw) trivial (Nat.le_of_ble_eq_true rfl) (Nat.le_of_ble_eq_true rfl) dX7_goesBy_31 hQ
    · exact absurd c24 (by decide)
  · have c5 := b01_z c5
    refine lv_iload_n hx hb dX7_goesBy_8 rfl (lv_at hl 1 rfl) ?_
    refine lv_if_ne (tgt := 16) hx hb dX7_goesBy_9 (by decide) (fun c9 => ?_) (fun c9 => ?_)
    · refine lv_iconst (v := 0) hx hb dX7_goesBy_16 (by decide) ?_
      refine s_put (v := .int 0) fb7 cf hw 0 rfl 21 rfl q942 rfl rfl rfl rfl dX7_goesBy_17 (fun H locs hw => ?_)
      have hw : WD g A s H locs [bO a 7 (mF ad ik (nI tp) (nI (atA tf tp q.1)) (nI (bgA tf tp q.1)) (tkA tf tp q.1) (vaA tf tp q.1) (nI q.2.1.length) (nI q.2.2.1) ky (nI o) (nI nn) 0 (nI (bwA tf tp q.1)) wt), bI g (ad 10) 96 tf] := hw
      refine lv_aload_n hx hb dX7_goesBy_20 rfl (lv_at hl 0 rfl) ?_
      refine s_get (v := .int 0) fb7 cf hw 0 rfl 21 rfl q942 rfl dX7_goesBy_21 ?_
      refine lv_if_ne (tgt := 31) hx hb dX7_goesBy_24 (by decide) (fun c24 => ?_) (fun c24 => ?_)
      · exact absurd c24 (by decide)
      · refine lv_aload_n hx hb dX7_goesBy_27 rfl (lv_at hl 0 rfl) ?_
        refine s_callv (runV cf (m_next (ik := ik) (ky := ky) (wt := wt) (bg0 := nI (bgA tf tp q.1)) (tk0 := tkA tf tp q.1) (va0 := vaA tf tp q.1) (cd0 := nI q.2.1.length) (wo0 := nI q.2.2.1) (op0 := nI o) (nt0 := nI nn) (wr0 := 0) (tf := tf) (at_ := atA tf tp q.1) (bw := bwA tf tp q.1) (tp := tp) htp (lxs_rng q.1).2.1 (by have := (lxs_rng (tf := tf) (tp := tp) q.1).2.2.1; omega)) hw [0, 1] (by decide) rfl km_X7_next ki_X7_next q1268 (run_recv (ci := 7) (T := TX7) (N := 39) hw 0 rfl rfl) rfl rfl hl.1 rfl dX7_goesBy_28) hw [0, 1] (by decide) rfl (fun _ => rfl) (fun u_1 H locs hp_2 hw => ?_)
        have hw : WD g A s H locs [bO a 7 (mF ad ik (nI tp) (nI (lexF tf tp (atA tf tp q.1) (bwA tf tp q.1)).2.1) (nI (lexF tf tp (atA tf tp q.1) (bwA tf tp q.1)).1) ((lexF tf tp (atA tf tp q.1) (bwA tf tp q.1)).2.2.2.1) ((lexF tf tp (atA tf tp q.1) (bwA tf tp q.1)).2.2.2.2) (nI q.2.1.length) (nI q.2.2.1) ky (nI o) (nI nn) 0 (nI (lexF tf tp (atA tf tp q.1) (bwA tf tp q.1)).2.2.1) wt), bI g (ad 10) 96 tf] := hw
        have hw : WD g A s H locs [bO a 7 (mF ad ik (nI tp) (nI (atA tf tp (nxF q).1)) (nI (bgA tf tp (nxF q).1)) (tkA tf tp (nxF q).1) (vaA tf tp (nxF q).1) (nI q.2.1.length) (nI q.2.2.1) ky (nI o) (nI nn) 0 (nI (bwA tf tp (nxF q).1)) wt), bI g (ad 10) 96 tf] := by rw [nx_eq] at hw; exact hw
        exact s_vret cf hr hlk () (by rw [show goF (¬ b = 0) q = (q.1 + 1, q.2.1, q.2.2.1, false) from if_neg (fun z => by rcases z with y | y; exact c5 y; exact y c9)]; exact hw) trivial (Nat.le_of_ble_eq_true rfl) (Nat.le_of_ble_eq_true rfl) dX7_goesBy_31 hQ
    · refine lv_iconst (v := 1) hx hb dX7_goesBy_12 (by decide) ?_
      refine lv_goto (tgt := 17) hx hb dX7_goesBy_13 (by decide) ?_
      refine s_put (v := .int 1) fb7 cf hw 0 rfl 21 rfl q942 rfl rfl rfl rfl dX7_goesBy_17 (fun H locs hw => ?_)
      have hw : WD g A s H locs [bO a 7 (mF ad ik (nI tp) (nI (atA tf tp q.1)) (nI (bgA tf tp q.1)) (tkA tf tp q.1) (vaA tf tp q.1) (nI q.2.1.length) (nI q.2.2.1) ky (nI o) (nI nn) 1 (nI (bwA tf tp q.1)) wt), bI g (ad 10) 96 tf] := hw
      refine lv_aload_n hx hb dX7_goesBy_20 rfl (lv_at hl 0 rfl) ?_
      refine s_get (v := .int 1) fb7 cf hw 0 rfl 21 rfl q942 rfl dX7_goesBy_21 ?_
      refine lv_if_ne (tgt := 31) hx hb dX7_goesBy_24 (by decide) (fun c24 => ?_) (fun c24 => ?_)
      · exact s_vret cf hr hlk () (by rw [show goF (¬ b = 0) q = (q.1, q.2.1, q.2.2.1, true) from if_pos (Or.inr (fun z => z c9))]; exact hw) trivial (Nat.le_of_ble_eq_true rfl) (Nat.le_of_ble_eq_true rfl) dX7_goesBy_31 hQ
      · exact absurd c24 (by decide)
set_option maxRecDepth 100000 in
set_option maxHeartbeats 4000000 in
theorem m_lays {l : Launch} {g : GG} {a : Nat} {ad : Nat → Nat} {ik ky wt : Int32} {tf : DD} {tp : Nat} (htp : tp ≤ 96) {o nn : Nat} (q : PS) {cz : DD} (hlen : q.2.2.2 = false → q.2.1.length < 96) (v : Int32) : Ct l g yX7_lays cX7_lays 2 (Option.none : Option Jvm.ClassFile.FieldType) 0 0 0 [.ref a, .int v] [bO a 7 (mF ad ik (nI tp) (nI (atA tf tp q.1)) (nI (bgA tf tp q.1)) (tkA tf tp q.1) (vaA tf tp q.1) (nI q.2.1.length) (nI q.2.2.1) ky (nI o) (nI nn) (if q.2.2.2 = true then 1 else 0) (nI (bwA tf tp q.1)) wt), bI g (ad 23) 96 cz] (QV g (fun (_ : Unit) => True) (fun _ => [bO a 7 (mF ad ik (nI tp) (nI (atA tf tp (layF v q).1)) (nI (bgA tf tp (layF v q).1)) (tkA tf tp (layF v q).1) (vaA tf tp (layF v q).1) (nI (layF v q).2.1.length) (nI (layF v q).2.2.1) ky (nI o) (nI nn) (if (layF v q).2.2.2 = true then 1 else 0) (nI (bwA tf tp (layF v q).1)) wt), bI g (ad 23) 96 (if q.2.2.2 = true then cz else upd cz q.2.1.length v)])) := by
  refine Ct.of (by decide) rfl ?_
  intro p e s m args below meth c A H locs ls Qf cf hr hlk hnm hQ hw hl
  have hx := cf.1
  have hb := cf.2.1
  have hml := cf.2.2.1
  have hown := cf.2.2.2.1
  have hts := cf.2.2.2.2
  have hw : WD g A s H locs [bO a 7 (mF ad ik (nI tp) (nI (atA tf tp q.1)) (nI (bgA tf tp q.1)) (tkA tf tp q.1) (vaA tf tp q.1) (nI q.2.1.length) (nI q.2.2.1) ky (nI o) (nI nn) (if q.2.2.2 = true then 1 else 0) (nI (bwA tf tp q.1)) wt), bI g (ad 23) 96 cz] := hw
  have hl : lv_has ls 2 [(0, .ref a), (1, .int v)] := hl
  refine lv_aload_n hx hb dX7_lays_0 rfl (lv_at hl 0 rfl) ?_
  refine s_get (v := .int (if q.2.2.2 = true then 1 else 0)) fb7 cf hw 0 rfl 21 rfl q942 rfl dX7_lays_1 ?_
  refine lv_if_ne (tgt := 27) hx hb dX7_lays_4 (by decide) (fun c4 => ?_) (fun c4 => ?_)
  · have c4 := b01_n c4
    exact s_vret cf hr hlk () (by rw [show layF v q = q from if_pos c4, show (if q.2.2.2 = true then cz else upd cz q.2.1.length v) = cz from if_pos c4]; exact hw) trivial (Nat.le_of_ble_eq_true rfl) (Nat.le_of_ble_eq_true rfl) dX7_lays_27 hQ
  · have c4 := b01_z c4
    have hl96 : q.2.1.length < 96 := hlen (by simpa using c4)
    refine lv_aload_n hx hb dX7_lays_7 rfl (lv_at hl 0 rfl) ?_
    refine s_get (v := .ref (ad 23)) fb7 cf hw 0 rfl 23 rfl q944 rfl dX7_lays_8 ?_
    refine lv_aload_n hx hb dX7_lays_11 rfl (lv_at hl 0 rfl) ?_
    refine s_get (v := .int (nI q.2.1.length)) fb7 cf hw 0 rfl 16 rfl q937 rfl dX7_lays_12 ?_
    refine lv_iload_n hx hb dX7_lays_15 rfl (lv_at hl 1 rfl) ?_
    refine s_iast (j := q.2.1.length) cf hw 1 rfl (rfl) (by omega) rfl dX7_lays_16 (fun H locs hw => ?_)
    have hw : WD g A s H locs [bO a 7 (mF ad ik (nI tp) (nI (atA tf tp q.1)) (nI (bgA tf tp q.1)) (tkA tf tp q.1) (vaA tf tp q.1) (nI q.2.1.length) (nI q.2.2.1) ky (nI o) (nI nn) (if q.2.2.2 = true then 1 else 0) (nI (bwA tf tp q.1)) wt), bI g (ad 23) 96 (upd cz q.2.1.length v)] := hw
    refine lv_aload_n hx hb dX7_lays_17 rfl (lv_at hl 0 rfl) ?_
    refine lv_dup hx hb dX7_lays_18 rfl ?_
    refine s_get (v := .int (nI q.2.1.length)) fb7 cf hw 0 rfl 16 rfl q937 rfl dX7_lays_19 ?_
    refine lv_iconst (v := 1) hx hb dX7_lays_22 (by decide) ?_
    refine lv_iadd hx hb dX7_lays_23 ?_
    refine lv_topr (y := nI (q.2.1.length + 1)) (nI_1 _) ?_
    refine s_put (v := .int (nI (q.2.1.length + 1))) fb7 cf hw 0 rfl 16 rfl q937 rfl rfl rfl rfl dX7_lays_24 (fun H locs hw => ?_)
    have hw : WD g A s H locs [bO a 7 (mF ad ik (nI tp) (nI (atA tf tp q.1)) (nI (bgA tf tp q.1)) (tkA tf tp q.1) (vaA tf tp q.1) (nI (q.2.1.length + 1)) (nI q.2.2.1) ky (nI o) (nI nn) (if q.2.2.2 = true then 1 else 0) (nI (bwA tf tp q.1)) wt), bI g (ad 23) 96 (upd cz q.2.1.length v)] := hw
    exact s_vret cf hr hlk () (by rw [show layF v q = (q.1, q.2.1 ++ [v], q.2.2.1, false) from if_neg c4, show (if q.2.2.2 = true then cz else upd cz q.2.1.length v) = upd cz q.2.1.length v from if_neg c4]; have e : nI (q.1, q.2.1 ++ [v], q.2.2.1, false).2.1.length = nI (q.2.1.length + 1) := (by show nI (q.2.1 ++ [v]).length = _; rw [List.length_append]; rfl); rw [e]; have e2 : (if q.2.2.2 = true then (1 : Int32) else 0) = 0 := if_neg c4; rw [e2] at hw; exact hw) trivial (Nat.le_of_ble_eq_true rfl) (Nat.le_of_ble_eq_true rfl) dX7_lays_27 hQ
set_option maxRecDepth 100000 in
set_option maxHeartbeats 4000000 in
theorem m_nameHere {l : Launch} {g : GG} {a : Nat} {ad : Nat → Nat} {ik ky wt : Int32} {tf : DD} {tp : Nat} (htp : tp ≤ 96) {o nn : Nat} (q : PS) : Ct l g yX7_nameHere cX7_nameHere 2 (Option.some Jvm.ClassFile.FieldType.int) 0 0 0 [.ref a] [bO a 7 (mF ad ik (nI tp) (nI (atA tf tp q.1)) (nI (bgA tf tp q.1)) (tkA tf tp q.1) (vaA tf tp q.1) (nI q.2.1.length) (nI q.2.2.1) ky (nI o) (nI nn) (if q.2.2.2 = true then 1 else 0) (nI (bwA tf tp q.1)) wt)] (QI g (fun r (_ : Unit) => r = nameF ky (tkA tf tp q.1) (vaA tf tp q.1)) (fun _ => [bO a 7 (mF ad ik (nI tp) (nI (atA tf tp q.1)) (nI (bgA tf tp q.1)) (tkA tf tp q.1) (vaA tf tp q.1) (nI q.2.1.length) (nI q.2.2.1) ky (nI o) (nI nn) (if q.2.2.2 = true then 1 else 0) (nI (bwA tf tp q.1)) wt)])) := by
  refine Ct.of (by decide) rfl ?_
  intro p e s m args below meth c A H locs ls Qf cf hr hlk hnm hQ hw hl
  have hx := cf.1
  have hb := cf.2.1
  have hml := cf.2.2.1
  have hown := cf.2.2.2.1
  have hts := cf.2.2.2.2
  have hw : WD g A s H locs [bO a 7 (mF ad ik (nI tp) (nI (atA tf tp q.1)) (nI (bgA tf tp q.1)) (tkA tf tp q.1) (vaA tf tp q.1) (nI q.2.1.length) (nI q.2.2.1) ky (nI o) (nI nn) (if q.2.2.2 = true then 1 else 0) (nI (bwA tf tp q.1)) wt)] := hw
  have hl : lv_has ls 2 [(0, .ref a)] := hl
  refine lv_aload_n hx hb dX7_nameHere_0 rfl (lv_at hl 0 rfl) ?_
  refine s_get (v := .int (tkA tf tp q.1)) fb7 cf hw 0 rfl 14 rfl q935 rfl dX7_nameHere_1 ?_
  refine lv_iconst (v := 1) hx hb dX7_nameHere_4 (by decide) ?_
  refine lv_icmp_ne (tgt := 28) hx hb dX7_nameHere_5 (by decide) (fun c5 => ?_) (fun c5 => ?_)
  · refine lv_iconst (v := (-1)) hx hb dX7_nameHere_28 (by decide) ?_
    exact s_iret cf hr hlk () hw ((if_neg (fun z => c5 z.1)).symm) (Nat.le_of_ble_eq_true rfl) (Nat.le_of_ble_eq_true rfl) dX7_nameHere_29 hQ
  · refine lv_aload_n hx hb dX7_nameHere_8 rfl (lv_at hl 0 rfl) ?_
    refine s_get (v := .long (vaA tf tp q.1)) fb7 cf hw 0 rfl 15 rfl q936 rfl dX7_nameHere_9 ?_
    refine lv_ldc2 hx hb hown (hts _ q1324) dX7_nameHere_12 ?_
    refine W.lcmp hx hb dX7_nameHere_15 ?_
    refine lv_if_gt (tgt := 28) hx hb dX7_nameHere_16 (by decide) (fun c16 => ?_) (fun c16 => ?_)
    · refine lv_iconst (v := (-1)) hx hb dX7_nameHere_28 (by decide) ?_
      exact s_iret cf hr hlk () hw ((if_neg (fun z => z.2.1 ((lg_cmp_gt _ _).mp c16))).symm) (Nat.le_of_ble_eq_true rfl) (Nat.le_of_ble_eq_true rfl) dX7_nameHere_29 hQ
    · refine lv_aload_n hx hb dX7_nameHere_19 rfl (lv_at hl 0 rfl) ?_
      refine s_get (v := .long (vaA tf tp q.1)) fb7 cf hw 0 rfl 15 rfl q936 rfl dX7_nameHere_20 ?_
      refine lv_lconst (v := 1) hx hb dX7_nameHere_23 rfl ?_
      refine W.lcmp hx hb dX7_nameHere_24 ?_
      refine lv_if_ge (tgt := 30) hx hb dX7_nameHere_25 (by decide) (fun c25 => ?_) (fun c25 => ?_)
      · have hnm : tkA tf tp q.1 = 1 ∧ ¬ 26 < vaA tf tp q.1 ∧ ¬ vaA tf tp q.1 < 1 := ⟨c5, fun z => c16 ((lg_cmp_gt _ _).mpr z), fun z => absurd ((lg_cmp_lt _ _).mpr z) (Int32.not_lt.mpr c25)⟩
        refine lv_ldc2 hx hb hown (hts _ q1277) dX7_nameHere_30 ?_
        refine lv_aload_n hx hb dX7_nameHere_33 rfl (lv_at hl 0 rfl) ?_
        refine s_get (v := .long (vaA tf tp q.1)) fb7 cf hw 0 rfl 15 rfl q936 rfl dX7_nameHere_34 ?_
        refine lv_ladd hx hb dX7_nameHere_37 ?_
        refine lv_lconst (v := 1) hx hb dX7_nameHere_38 rfl ?_
        refine lv_lsub hx hb dX7_nameHere_39 ?_
        refine lv_l2i (v := ((97 + (vaA tf tp q.1)) - 1 : Int64).toInt32) hx hb dX7_nameHere_40 rfl ?_
        refine lv_i2c (v := ((((97 + (vaA tf tp q.1)) - 1 : Int64).toInt32 : Int32).toUInt32 % 65536).toInt32) hx hb dX7_nameHere_41 rfl ?_
        refine lv_topr (y := chF (vaA tf tp q.1)) (rfl) ?_
        refine lv_istore_n (lv' := [(1, .int (chF (vaA tf tp q.1))), (0, .ref a)]) hx hb dX7_nameHere_42 rfl hl (by decide) rfl (fun ls hl => ?_)
        refine lv_aload_n hx hb dX7_nameHere_43 rfl (lv_at hl 1 rfl) ?_
        refine s_get (v := .int ky) fb7 cf hw 0 rfl 18 rfl q939 rfl dX7_nameHere_44 ?_
        refine lv_if_ne (tgt := 92) hx hb dX7_nameHere_47 (by decide) (fun c47 => ?_) (fun c47 => ?_)
        · refine lv_aload_n hx hb dX7_nameHere_92 rfl (lv_at hl 1 rfl) ?_
          refine s_get (v := .int ky) fb7 cf hw 0 rfl 18 rfl q939 rfl dX7_nameHere_93 ?_
          refine lv_iconst (v := 1) hx hb dX7_nameHere_96 (by decide) ?_
          refine lv_icmp_ne (tgt := 122) hx hb dX7_nameHere_97 (by decide) (fun c97 => ?_) (fun c97 => ?_)
          · refine lv_iload_n hx hb dX7_nameHere_122 rfl (lv_at hl 0 rfl) ?_
            refine lv_bipush (v := 115) hx hb dX7_nameHere_123 (by decide) ?_
            refine lv_icmp_ne (tgt := 132) hx hb dX7_nameHere_125 (by decide) (fun c125 => ?_) (fun c125 => ?_)
            · refine lv_iload_n hx hb dX7_nameHere_132 rfl (lv_at hl 0 rfl) ?_
              refine lv_bipush (v := 99) hx hb dX7_nameHere_133 (by decide) ?_
              refine lv_icmp_ne (tgt := 142) hx hb dX7_nameHere_135 (by decide) (fun c135 => ?_) (fun c135 => ?_)
              · refine lv_iconst (v := (-1)) hx hb dX7_nameHere_142 (by decide) ?_
                exact s_iret cf hr hlk () hw (by unfold nameF; rw [if_pos hnm]; unfold nmR; grind) (Nat.le_of_ble_eq_true rfl) (Nat.le_of_ble_eq_true rfl) dX7_nameHere_143 hQ
              · refine lv_iconst (v := 1) hx hb dX7_nameHere_138 (by decide) ?_
                refine lv_goto (tgt := 143) hx hb dX7_nameHere_139 (by decide) ?_
                exact s_iret cf hr hlk () hw (by unfold nameF; rw [if_pos hnm]; unfold nmR; grind) (Nat.le_of_ble_eq_true rfl) (Nat.le_of_ble_eq_true rfl) dX7_nameHere_143 hQ
            · refine lv_iconst (v := 0) hx hb dX7_nameHere_128 (by decide) ?_
              refine lv_goto (tgt := 143) hx hb dX7_nameHere_129 (by decide) ?_
              exact s_iret cf hr hlk () hw (by unfold nameF; rw [if_pos hnm]; unfold nmR; grind) (Nat.le_of_ble_eq_true rfl) (Nat.le_of_ble_eq_true rfl) dX7_nameHere_143 hQ
          · refine lv_iload_n hx hb dX7_nameHere_100 rfl (lv_at hl 0 rfl) ?_
            refine lv_bipush (v := 111) hx hb dX7_nameHere_101 (by decide) ?_
            refine lv_icmp_ne (tgt := 110) hx hb dX7_nameHere_103 (by decide) (fun c103 => ?_) (fun c103 => ?_)
            · refine lv_iload_n hx hb dX7_nameHere_110 rfl (lv_at hl 0 rfl) ?_
              refine lv_bipush (v := 107) hx hb dX7_nameHere_111 (by decide) ?_
              refine lv_icmp_ne (tgt := 120) hx hb dX7_nameHere_113 (by decide) (fun c113 => ?_) (fun c113 => ?_)
              · refine lv_iconst (v := (-1)) hx hb dX7_nameHere_120 (by decide) ?_
                exact s_iret cf hr hlk () hw (by unfold nameF; rw [if_pos hnm]; unfold nmR; grind) (Nat.le_of_ble_eq_true rfl) (Nat.le_of_ble_eq_true rfl) dX7_nameHere_121 hQ
              · refine lv_iconst (v := 1) hx hb dX7_nameHere_116 (by decide) ?_
                refine lv_goto (tgt := 121) hx hb dX7_nameHere_117 (by decide) ?_
                exact s_iret cf hr hlk () hw (by unfold nameF; rw [if_pos hnm]; unfold nmR; grind) (Nat.le_of_ble_eq_true rfl) (Nat.le_of_ble_eq_true rfl) dX7_nameHere_121 hQ
            · refine lv_iconst (v := 0) hx hb dX7_nameHere_106 (by decide) ?_
              refine lv_goto (tgt := 121) hx hb dX7_nameHere_107 (by decide) ?_
              exact s_iret cf hr hlk () hw (by unfold nameF; rw [if_pos hnm]; unfold nmR; grind) (Nat.le_of_ble_eq_true rfl) (Nat.le_of_ble_eq_true rfl) dX7_nameHere_121 hQ
        · refine lv_iload_n hx hb dX7_nameHere_50 rfl (lv_at hl 0 rfl) ?_
          refine lv_bipush (v := 115) hx hb dX7_nameHere_51 (by decide) ?_
          refine lv_icmp_ne (tgt := 60) hx hb dX7_nameHere_53 (by decide) (fun c53 => ?_) (fun c53 => ?_)
          · refine lv_iload_n hx hb dX7_nameHere_60 rfl (lv_at hl 0 rfl) ?_
            refine lv_bipush (v := 112) hx hb dX7_nameHere_61 (by decide) ?_
            refine lv_icmp_ne (tgt := 70) hx hb dX7_nameHere_63 (by decide) (fun c63 => ?_) (fun c63 => ?_)
            · refine lv_iload_n hx hb dX7_nameHere_70 rfl (lv_at hl 0 rfl) ?_
              refine lv_bipush (v := 99) hx hb dX7_nameHere_71 (by decide) ?_
              refine lv_icmp_ne (tgt := 80) hx hb dX7_nameHere_73 (by decide) (fun c73 => ?_) (fun c73 => ?_)
              · refine lv_iload_n hx hb dX7_nameHere_80 rfl (lv_at hl 0 rfl) ?_
                refine lv_bipush (v := 110) hx hb dX7_nameHere_81 (by decide) ?_
                refine lv_icmp_ne (tgt := 90) hx hb dX7_nameHere_83 (by decide) (fun c83 => ?_) (fun c83 => ?_)
                · refine lv_iconst (v := (-1)) hx hb dX7_nameHere_90 (by decide) ?_
                  exact s_iret cf hr hlk () hw (by unfold nameF; rw [if_pos hnm]; unfold nmR; grind) (Nat.le_of_ble_eq_true rfl) (Nat.le_of_ble_eq_true rfl) dX7_nameHere_91 hQ
                · refine lv_iconst (v := 3) hx hb dX7_nameHere_86 (by decide) ?_
                  refine lv_goto (tgt := 91) hx hb dX7_nameHere_87 (by decide) ?_
                  exact s_iret cf hr hlk () hw (by unfold nameF; rw [if_pos hnm]; unfold nmR; grind) (Nat.le_of_ble_eq_true rfl) (Nat.le_of_ble_eq_true rfl) dX7_nameHere_91 hQ
              · refine lv_iconst (v := 2) hx hb dX7_nameHere_76 (by decide) ?_
                refine lv_goto (tgt := 91) hx hb dX7_nameHere_77 (by decide) ?_
                exact s_iret cf hr hlk () hw (by unfold nameF; rw [if_pos hnm]; unfold nmR; grind) (Nat.le_of_ble_eq_true rfl) (Nat.le_of_ble_eq_true rfl) dX7_nameHere_91 hQ
            · refine lv_iconst (v := 1) hx hb dX7_nameHere_66 (by decide) ?_
              refine lv_goto (tgt := 91) hx hb dX7_nameHere_67 (by decide) ?_
              exact s_iret cf hr hlk () hw (by unfold nameF; rw [if_pos hnm]; unfold nmR; grind) (Nat.le_of_ble_eq_true rfl) (Nat.le_of_ble_eq_true rfl) dX7_nameHere_91 hQ
          · refine lv_iconst (v := 0) hx hb dX7_nameHere_56 (by decide) ?_
            refine lv_goto (tgt := 91) hx hb dX7_nameHere_57 (by decide) ?_
            exact s_iret cf hr hlk () hw (by unfold nameF; rw [if_pos hnm]; unfold nmR; grind) (Nat.le_of_ble_eq_true rfl) (Nat.le_of_ble_eq_true rfl) dX7_nameHere_91 hQ
      · refine lv_iconst (v := (-1)) hx hb dX7_nameHere_28 (by decide) ?_
        exact s_iret cf hr hlk () hw ((if_neg (fun z => z.2.2 ((lg_cmp_lt _ _).mp (Int32.not_le.mp c25)))).symm) (Nat.le_of_ble_eq_true rfl) (Nat.le_of_ble_eq_true rfl) dX7_nameHere_29 hQ
