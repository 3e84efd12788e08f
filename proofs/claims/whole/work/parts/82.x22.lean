set_option maxRecDepth 100000 in
set_option maxHeartbeats 4000000 in
theorem x_isLetter {l : Launch} {g : GG} (c_ : Int32) : Ct l g yX1_isLetter cX1_isLetter 1 (Option.some Jvm.ClassFile.FieldType.boolean) 0 0 0 [.int c_] [] (QI g (fun r (_ : Unit) => r = if isLt c_ then 1 else 0) (fun _ => [])) := by
  refine Ct.of (by decide) rfl ?_
  intro p e s m args below meth c A H locs ls Qf cf hr hlk hnm hQ hw hl
  have hx := cf.1
  have hb := cf.2.1
  have hml := cf.2.2.1
  have hown := cf.2.2.2.1
  have hts := cf.2.2.2.2
  have hw : WD g A s H locs [] := hw
  have hl : lv_has ls 1 [(0, .int c_)] := hl
  refine lv_iload_n hx hb dX1_isLetter_0 rfl (lv_at hl 0 rfl) ?_
  refine lv_bipush (v := 97) hx hb dX1_isLetter_1 (by decide) ?_
  refine lv_icmp_lt (tgt := 16) hx hb dX1_isLetter_3 (by decide) (fun c3 => ?_) (fun c3 => ?_)
  · refine lv_iconst (v := 0) hx hb dX1_isLetter_16 (by decide) ?_
    exact s_zret cf hr hlk () hw (by grind) rfl (Nat.le_of_ble_eq_true rfl) (Nat.le_of_ble_eq_true rfl) dX1_isLetter_17 hQ
  · refine lv_iload_n hx hb dX1_isLetter_6 rfl (lv_at hl 0 rfl) ?_
    refine lv_bipush (v := 122) hx hb dX1_isLetter_7 (by decide) ?_
    refine lv_icmp_gt (tgt := 16) hx hb dX1_isLetter_9 (by decide) (fun c9 => ?_) (fun c9 => ?_)
    · refine lv_iconst (v := 0) hx hb dX1_isLetter_16 (by decide) ?_
      exact s_zret cf hr hlk () hw (by grind) rfl (Nat.le_of_ble_eq_true rfl) (Nat.le_of_ble_eq_true rfl) dX1_isLetter_17 hQ
    · refine lv_iconst (v := 1) hx hb dX1_isLetter_12 (by decide) ?_
      refine lv_goto (tgt := 17) hx hb dX1_isLetter_13 (by decide) ?_
      exact s_zret cf hr hlk () hw (by grind) rfl (Nat.le_of_ble_eq_true rfl) (Nat.le_of_ble_eq_true rfl) dX1_isLetter_17 hQ
set_option maxRecDepth 100000 in
set_option maxHeartbeats 4000000 in
theorem x_isDigit {l : Launch} {g : GG} (c_ : Int32) : Ct l g yX1_isDigit cX1_isDigit 1 (Option.some Jvm.ClassFile.FieldType.boolean) 0 0 0 [.int c_] [] (QI g (fun r (_ : Unit) => r = if isDg c_ then 1 else 0) (fun _ => [])) := by
  refine Ct.of (by decide) rfl ?_
  intro p e s m args below meth c A H locs ls Qf cf hr hlk hnm hQ hw hl
  have hx := cf.1
  have hb := cf.2.1
  have hml := cf.2.2.1
  have hown := cf.2.2.2.1
  have hts := cf.2.2.2.2
  have hw : WD g A s H locs [] := hw
  have hl : lv_has ls 1 [(0, .int c_)] := hl
  refine lv_iload_n hx hb dX1_isDigit_0 rfl (lv_at hl 0 rfl) ?_
  refine lv_bipush (v := 48) hx hb dX1_isDigit_1 (by decide) ?_
  refine lv_icmp_lt (tgt := 16) hx hb dX1_isDigit_3 (by decide) (fun c3 => ?_) (fun c3 => ?_)
  · refine lv_iconst (v := 0) hx hb dX1_isDigit_16 (by decide) ?_
    exact s_zret cf hr hlk () hw (by grind) rfl (Nat.le_of_ble_eq_true rfl) (Nat.le_of_ble_eq_true rfl) dX1_isDigit_17 hQ
  · refine lv_iload_n hx hb dX1_isDigit_6 rfl (lv_at hl 0 rfl) ?_
    refine lv_bipush (v := 57) hx hb dX1_isDigit_7 (by decide) ?_
    refine lv_icmp_gt (tgt := 16) hx hb dX1_isDigit_9 (by decide) (fun c9 => ?_) (fun c9 => ?_)
    · refine lv_iconst (v := 0) hx hb dX1_isDigit_16 (by decide) ?_
      exact s_zret cf hr hlk () hw (by grind) rfl (Nat.le_of_ble_eq_true rfl) (Nat.le_of_ble_eq_true rfl) dX1_isDigit_17 hQ
    · refine lv_iconst (v := 1) hx hb dX1_isDigit_12 (by decide) ?_
      refine lv_goto (tgt := 17) hx hb dX1_isDigit_13 (by decide) ?_
      exact s_zret cf hr hlk () hw (by grind) rfl (Nat.le_of_ble_eq_true rfl) (Nat.le_of_ble_eq_true rfl) dX1_isDigit_17 hQ
set_option maxRecDepth 100000 in
set_option maxHeartbeats 4000000 in
theorem x_isWord {l : Launch} {g : GG} (c_ : Int32) : Ct l g yX1_isWord cX1_isWord 1 (Option.some Jvm.ClassFile.FieldType.boolean) 1 0 0 [.int c_] [] (QI g (fun r (_ : Unit) => r = if isLt c_ ∨ isDg c_ then 1 else 0) (fun _ => [])) := by
  refine Ct.of (by decide) rfl ?_
  intro p e s m args below meth c A H locs ls Qf cf hr hlk hnm hQ hw hl
  have hx := cf.1
  have hb := cf.2.1
  have hml := cf.2.2.1
  have hown := cf.2.2.2.1
  have hts := cf.2.2.2.2
  have hw : WD g A s H locs [] := hw
  have hl : lv_has ls 1 [(0, .int c_)] := hl
  refine lv_iload_n hx hb dX1_isWord_0 rfl (lv_at hl 0 rfl) ?_
  refine s_calli (runS cf (x_isLetter c_) hw [] (by decide) rfl km_X1_isLetter ks_X1_isLetter q660 rfl rfl hl.1 rfl dX1_isWord_1) hw [] (by decide) rfl (fun _ => rfl) (fun r_3 u_1 H locs hp_2 hw => ?_)
  have hw : WD g A s H locs [] := hw
  subst hp_2
  refine lv_if_ne (tgt := 14) hx hb dX1_isWord_4 (by decide) (fun c4 => ?_) (fun c4 => ?_)
  · have c4 := b01_n c4
    refine lv_iconst (v := 1) hx hb dX1_isWord_14 (by decide) ?_
    refine lv_goto (tgt := 19) hx hb dX1_isWord_15 (by decide) ?_
    exact s_zret cf hr hlk () hw ((if_pos (Or.inl c4)).symm) rfl (Nat.le_of_ble_eq_true rfl) (Nat.le_of_ble_eq_true rfl) dX1_isWord_19 hQ
  · have c4 := b01_z c4
    refine lv_iload_n hx hb dX1_isWord_7 rfl (lv_at hl 0 rfl) ?_
    refine s_calli (runS cf (x_isDigit c_) hw [] (by decide) rfl km_X1_isDigit ks_X1_isDigit q663 rfl rfl hl.1 rfl dX1_isWord_8) hw [] (by decide) rfl (fun _ => rfl) (fun r_6 u_4 H locs hp_5 hw => ?_)
    have hw : WD g A s H locs [] := hw
    subst hp_5
    refine lv_if_eq (tgt := 18) hx hb dX1_isWord_11 (by decide) (fun c11 => ?_) (fun c11 => ?_)
    · have c11 := b01_z c11
      refine lv_iconst (v := 0) hx hb dX1_isWord_18 (by decide) ?_
      exact s_zret cf hr hlk () hw ((if_neg (fun z => by rcases z with y | y; exact c4 y; exact c11 y)).symm) rfl (Nat.le_of_ble_eq_true rfl) (Nat.le_of_ble_eq_true rfl) dX1_isWord_19 hQ
    · have c11 := b01_n c11
      refine lv_iconst (v := 1) hx hb dX1_isWord_14 (by decide) ?_
      refine lv_goto (tgt := 19) hx hb dX1_isWord_15 (by decide) ?_
      exact s_zret cf hr hlk () hw ((if_pos (Or.inr c11)).symm) rfl (Nat.le_of_ble_eq_true rfl) (Nat.le_of_ble_eq_true rfl) dX1_isWord_19 hQ
set_option maxRecDepth 100000 in
set_option maxHeartbeats 4000000 in
theorem x_rankOf {l : Launch} {g : GG} (c_ : Int32) : Ct l g yX1_rankOf cX1_rankOf 1 (Option.some Jvm.ClassFile.FieldType.int) 0 0 0 [.int c_] [] (QI g (fun r (_ : Unit) => r = nI (rk c_)) (fun _ => [])) := by
  refine Ct.of (by decide) rfl ?_
  intro p e s m args below meth c A H locs ls Qf cf hr hlk hnm hQ hw hl
  have hx := cf.1
  have hb := cf.2.1
  have hml := cf.2.2.1
  have hown := cf.2.2.2.1
  have hts := cf.2.2.2.2
  have hw : WD g A s H locs [] := hw
  have hl : lv_has ls 1 [(0, .int c_)] := hl
  refine lv_iload_n hx hb dX1_rankOf_0 rfl (lv_at hl 0 rfl) ?_
  by_cases t1_38 : c_ = 38
  · refine lv_lookup (tgt := 86) (off := 85) hx hb dX1_rankOf_1 (by decide) (by rw [t1_38]; decide) (by decide) ?_
    refine lv_iconst (v := 2) hx hb dX1_rankOf_86 (by decide) ?_
    exact s_iret cf hr hlk () hw (by unfold rk; rw [if_pos t1_38]; rfl) (Nat.le_of_ble_eq_true rfl) (Nat.le_of_ble_eq_true rfl) dX1_rankOf_87 hQ
  by_cases t1_42 : c_ = 42
  · refine lv_lookup (tgt := 92) (off := 91) hx hb dX1_rankOf_1 (by decide) (by rw [t1_42]; decide) (by decide) ?_
    refine lv_iconst (v := 5) hx hb dX1_rankOf_92 (by decide) ?_
    exact s_iret cf hr hlk () hw (by unfold rk; rw [if_neg t1_38, if_pos t1_42]; rfl) (Nat.le_of_ble_eq_true rfl) (Nat.le_of_ble_eq_true rfl) dX1_rankOf_93 hQ
  by_cases t1_43 : c_ = 43
  · refine lv_lookup (tgt := 90) (off := 89) hx hb dX1_rankOf_1 (by decide) (by rw [t1_43]; decide) (by decide) ?_
    refine lv_iconst (v := 4) hx hb dX1_rankOf_90 (by decide) ?_
    exact s_iret cf hr hlk () hw (by unfold rk; rw [if_neg t1_38, if_neg t1_42, if_pos t1_43]; rfl) (Nat.le_of_ble_eq_true rfl) (Nat.le_of_ble_eq_true rfl) dX1_rankOf_91 hQ
  by_cases t1_45 : c_ = 45
  · refine lv_lookup (tgt := 90) (off := 89) hx hb dX1_rankOf_1 (by decide) (by rw [t1_45]; decide) (by decide) ?_
    refine lv_iconst (v := 4) hx hb dX1_rankOf_90 (by decide) ?_
    exact s_iret cf hr hlk () hw (by unfold rk; rw [if_neg t1_38, if_neg t1_42, if_neg t1_43, if_pos t1_45]; rfl) (Nat.le_of_ble_eq_true rfl) (Nat.le_of_ble_eq_true rfl) dX1_rankOf_91 hQ
  by_cases t1_47 : c_ = 47
  · refine lv_lookup (tgt := 92) (off := 91) hx hb dX1_rankOf_1 (by decide) (by rw [t1_47]; decide) (by decide) ?_
    refine lv_iconst (v := 5) hx hb dX1_rankOf_92 (by decide) ?_
    exact s_iret cf hr hlk () hw (by unfold rk; rw [if_neg t1_38, if_neg t1_42, if_neg t1_43, if_neg t1_45, if_pos t1_47]; rfl) (Nat.le_of_ble_eq_true rfl) (Nat.le_of_ble_eq_true rfl) dX1_rankOf_93 hQ
  by_cases t1_60 : c_ = 60
  · refine lv_lookup (tgt := 88) (off := 87) hx hb dX1_rankOf_1 (by decide) (by rw [t1_60]; decide) (by decide) ?_
    refine lv_iconst (v := 3) hx hb dX1_rankOf_88 (by decide) ?_
    exact s_iret cf hr hlk () hw (by unfold rk; rw [if_neg t1_38, if_neg t1_42, if_neg t1_43, if_neg t1_45, if_neg t1_47, if_pos t1_60]; rfl) (Nat.le_of_ble_eq_true rfl) (Nat.le_of_ble_eq_true rfl) dX1_rankOf_89 hQ
  by_cases t1_61 : c_ = 61
  · refine lv_lookup (tgt := 88) (off := 87) hx hb dX1_rankOf_1 (by decide) (by rw [t1_61]; decide) (by decide) ?_
    refine lv_iconst (v := 3) hx hb dX1_rankOf_88 (by decide) ?_
    exact s_iret cf hr hlk () hw (by unfold rk; rw [if_neg t1_38, if_neg t1_42, if_neg t1_43, if_neg t1_45, if_neg t1_47, if_neg t1_60, if_pos t1_61]; rfl) (Nat.le_of_ble_eq_true rfl) (Nat.le_of_ble_eq_true rfl) dX1_rankOf_89 hQ
  by_cases t1_62 : c_ = 62
  · refine lv_lookup (tgt := 88) (off := 87) hx hb dX1_rankOf_1 (by decide) (by rw [t1_62]; decide) (by decide) ?_
    refine lv_iconst (v := 3) hx hb dX1_rankOf_88 (by decide) ?_
    exact s_iret cf hr hlk () hw (by unfold rk; rw [if_neg t1_38, if_neg t1_42, if_neg t1_43, if_neg t1_45, if_neg t1_47, if_neg t1_60, if_neg t1_61, if_pos t1_62]; rfl) (Nat.le_of_ble_eq_true rfl) (Nat.le_of_ble_eq_true rfl) dX1_rankOf_89 hQ
  by_cases t1_124 : c_ = 124
  · refine lv_lookup (tgt := 84) (off := 83) hx hb dX1_rankOf_1 (by decide) (by rw [t1_124]; decide) (by decide) ?_
    refine lv_iconst (v := 1) hx hb dX1_rankOf_84 (by decide) ?_
    exact s_iret cf hr hlk () hw (by unfold rk; rw [if_neg t1_38, if_neg t1_42, if_neg t1_43, if_neg t1_45, if_neg t1_47, if_neg t1_60, if_neg t1_61, if_neg t1_62, if_pos t1_124]; rfl) (Nat.le_of_ble_eq_true rfl) (Nat.le_of_ble_eq_true rfl) dX1_rankOf_85 hQ
  refine lv_lookup (tgt := 94) (off := 93) hx hb dX1_rankOf_1 (by decide) (by rw [show (_ : Array (Int × Int)).toList = [(38, 85), (42, 91), (43, 89), (45, 89), (47, 91), (60, 87), (61, 87), (62, 87), (124, 83)] from rfl, lv_osw (a := 38) t1_38 rfl, lv_osw (a := 42) t1_42 rfl, lv_osw (a := 43) t1_43 rfl, lv_osw (a := 45) t1_45 rfl, lv_osw (a := 47) t1_47 rfl, lv_osw (a := 60) t1_60 rfl, lv_osw (a := 61) t1_61 rfl, lv_osw (a := 62) t1_62 rfl, lv_osw (a := 124) t1_124 rfl]; rfl) (by decide) ?_
  refine lv_iconst (v := 0) hx hb dX1_rankOf_94 (by decide) ?_
  exact s_iret cf hr hlk () hw (by unfold rk; rw [if_neg t1_38, if_neg t1_42, if_neg t1_43, if_neg t1_45, if_neg t1_47, if_neg t1_60, if_neg t1_61, if_neg t1_62, if_neg t1_124]; rfl) (Nat.le_of_ble_eq_true rfl) (Nat.le_of_ble_eq_true rfl) dX1_rankOf_95 hQ
set_option maxRecDepth 100000 in
set_option maxHeartbeats 4000000 in
theorem x_write {l : Launch} {g : GG} {ra : Nat} {rd : Nat → Nat} {ky : Int32} {O : List Int32} {o_ b_ n_ p_ : Int32} {cz : DD} (hO : O.length < 96) (v : Int32) : Ct l g yX1_write cX1_write 2 (Option.none : Option Jvm.ClassFile.FieldType) 0 0 0 [.ref ra, .int v] [bO ra 1 (rF rd (nI O.length) o_ b_ n_ p_ ky), bI g (rd 1) 96 cz] (QV g (fun (_ : Unit) => True) (fun _ => [bO ra 1 (rF rd (nI (O.length + 1)) o_ b_ n_ p_ ky), bI g (rd 1) 96 (upd cz O.length v)])) := by
  refine Ct.of (by decide) rfl ?_
  intro p e s m args below meth c A H locs ls Qf cf hr hlk hnm hQ hw hl
  have hx := cf.1
  have hb := cf.2.1
  have hml := cf.2.2.1
  have hown := cf.2.2.2.1
  have hts := cf.2.2.2.2
  have hw : WD g A s H locs [bO ra 1 (rF rd (nI O.length) o_ b_ n_ p_ ky), bI g (rd 1) 96 cz] := hw
  have hl : lv_has ls 2 [(0, .ref ra), (1, .int v)] := hl
  refine lv_aload_n hx hb dX1_write_0 rfl (lv_at hl 0 rfl) ?_
  refine s_get (v := .int (nI O.length)) fb1 cf hw 0 rfl 2 rfl q225 rfl dX1_write_1 ?_
  refine lv_aload_n hx hb dX1_write_4 rfl (lv_at hl 0 rfl) ?_
  refine s_get (v := .ref (rd 1)) fb1 cf hw 0 rfl 0 rfl q223 rfl dX1_write_5 ?_
  refine s_alen (n32 := 96) cf hw 0 rfl 1 rfl rfl dX1_write_8 ?_
  refine lv_icmp_ge (tgt := 32) hx hb dX1_write_9 (by decide) (fun c9 => ?_) (fun c9 => ?_)
  · exact absurd (nI_le_of (n := 96) (by omega) c9 (by omega)) (by omega)
  · refine lv_aload_n hx hb dX1_write_12 rfl (lv_at hl 0 rfl) ?_
    refine s_get (v := .ref (rd 1)) fb1 cf hw 0 rfl 0 rfl q223 rfl dX1_write_13 ?_
    refine lv_aload_n hx hb dX1_write_16 rfl (lv_at hl 0 rfl) ?_
    refine s_get (v := .int (nI O.length)) fb1 cf hw 0 rfl 2 rfl q225 rfl dX1_write_17 ?_
    refine lv_iload_n hx hb dX1_write_20 rfl (lv_at hl 1 rfl) ?_
    refine s_iast (j := O.length) cf hw 1 rfl (rfl) (by omega) rfl dX1_write_21 (fun H locs hw => ?_)
    have hw : WD g A s H locs [bO ra 1 (rF rd (nI O.length) o_ b_ n_ p_ ky), bI g (rd 1) 96 (upd cz O.length v)] := hw
    refine lv_aload_n hx hb dX1_write_22 rfl (lv_at hl 0 rfl) ?_
    refine lv_dup hx hb dX1_write_23 rfl ?_
    refine s_get (v := .int (nI O.length)) fb1 cf hw 0 rfl 2 rfl q225 rfl dX1_write_24 ?_
    refine lv_iconst (v := 1) hx hb dX1_write_27 (by decide) ?_
    refine lv_iadd hx hb dX1_write_28 ?_
    refine lv_topr (y := nI (O.length + 1)) (nI_1 _) ?_
    refine s_put (v := .int (nI (O.length + 1))) fb1 cf hw 0 rfl 2 rfl q225 rfl rfl rfl rfl dX1_write_29 (fun H locs hw => ?_)
    have hw : WD g A s H locs [bO ra 1 (rF rd (nI (O.length + 1)) o_ b_ n_ p_ ky), bI g (rd 1) 96 (upd cz O.length v)] := hw
    exact s_vret cf hr hlk () hw trivial (Nat.le_of_ble_eq_true rfl) (Nat.le_of_ble_eq_true rfl) dX1_write_32 hQ
set_option maxRecDepth 100000 in
set_option maxHeartbeats 4000000 in
theorem x_leave {l : Launch} {g : GG} {ra : Nat} {rd : Nat → Nat} {ky : Int32} {S : List Int32} {w_ b_ n_ p_ : Int32} {sz : DD} (hS : S.length < 96) (v : Int32) : Ct l g yX1_leaveOpen cX1_leaveOpen 2 (Option.none : Option Jvm.ClassFile.FieldType) 0 0 0 [.ref ra, .int v] [bO ra 1 (rF rd w_ (nI S.length) b_ n_ p_ ky), bI g (rd 2) 96 sz] (QV g (fun (_ : Unit) => True) (fun _ => [bO ra 1 (rF rd w_ (nI (S.length + 1)) b_ n_ p_ ky), bI g (rd 2) 96 (upd sz S.length v)])) := by
  refine Ct.of (by decide) rfl ?_
  intro p e s m args below meth c A H locs ls Qf cf hr hlk hnm hQ hw hl
  have hx := cf.1
  have hb := cf.2.1
  have hml := cf.2.2.1
  have hown := cf.2.2.2.1
  have hts := cf.2.2.2.2
  have hw : WD g A s H locs [bO ra 1 (rF rd w_ (nI S.length) b_ n_ p_ ky), bI g (rd 2) 96 sz] := hw
  have hl : lv_has ls 2 [(0, .ref ra), (1, .int v)] := hl
  refine lv_aload_n hx hb dX1_leaveOpen_0 rfl (lv_at hl 0 rfl) ?_
  refine s_get (v := .int (nI S.length)) fb1 cf hw 0 rfl 3 rfl q226 rfl dX1_leaveOpen_1 ?_
  refine lv_aload_n hx hb dX1_leaveOpen_4 rfl (lv_at hl 0 rfl) ?_
  refine s_get (v := .ref (rd 2)) fb1 cf hw 0 rfl 1 rfl q224 rfl dX1_leaveOpen_5 ?_
  refine s_alen (n32 := 96) cf hw 0 rfl 1 rfl rfl dX1_leaveOpen_8 ?_
  refine lv_icmp_ge (tgt := 32) hx hb dX1_leaveOpen_9 (by decide) (fun c9 => ?_) (fun c9 => ?_)
  · exact absurd (nI_le_of (n := 96) (by omega) c9 (by omega)) (by omega)
  · refine lv_aload_n hx hb dX1_leaveOpen_12 rfl (lv_at hl 0 rfl) ?_
    refine s_get (v := .ref (rd 2)) fb1 cf hw 0 rfl 1 rfl q224 rfl dX1_leaveOpen_13 ?_
    refine lv_aload_n hx hb dX1_leaveOpen_16 rfl (lv_at hl 0 rfl) ?_
    refine s_get (v := .int (nI S.length)) fb1 cf hw 0 rfl 3 rfl q226 rfl dX1_leaveOpen_17 ?_
    refine lv_iload_n hx hb dX1_leaveOpen_20 rfl (lv_at hl 1 rfl) ?_
    refine s_iast (j := S.length) cf hw 1 rfl (rfl) (by omega) rfl dX1_leaveOpen_21 (fun H locs hw => ?_)
    have hw : WD g A s H locs [bO ra 1 (rF rd w_ (nI S.length) b_ n_ p_ ky), bI g (rd 2) 96 (upd sz S.length v)] := hw
    refine lv_aload_n hx hb dX1_leaveOpen_22 rfl (lv_at hl 0 rfl) ?_
    refine lv_dup hx hb dX1_leaveOpen_23 rfl ?_
    refine s_get (v := .int (nI S.length)) fb1 cf hw 0 rfl 3 rfl q226 rfl dX1_leaveOpen_24 ?_
    refine lv_iconst (v := 1) hx hb dX1_leaveOpen_27 (by decide) ?_
    refine lv_iadd hx hb dX1_leaveOpen_28 ?_
    refine lv_topr (y := nI (S.length + 1)) (nI_1 _) ?_
    refine s_put (v := .int (nI (S.length + 1))) fb1 cf hw 0 rfl 3 rfl q226 rfl rfl rfl rfl dX1_leaveOpen_29 (fun H locs hw => ?_)
    have hw : WD g A s H locs [bO ra 1 (rF rd w_ (nI (S.length + 1)) b_ n_ p_ ky), bI g (rd 2) 96 (upd sz S.length v)] := hw
    exact s_vret cf hr hlk () hw trivial (Nat.le_of_ble_eq_true rfl) (Nat.le_of_ble_eq_true rfl) dX1_leaveOpen_32 hQ
set_option maxRecDepth 100000 in
set_option maxHeartbeats 4000000 in
theorem x_closeD {l : Launch} {g : GG} {ra : Nat} {rd : Nat → Nat} {ky : Int32} {b_ n_ p_ : Int32} (O S : List Int32) (cz sz : DD) (hcz : CR cz O) (hsz : PR sz S) (hln : O.length + S.length ≤ 96) (r : Nat) (hr : r ≤ 6) : Ct l g yX1_closeDownTo cX1_closeDownTo 2 (Option.none : Option Jvm.ClassFile.FieldType) 1 0 0 [.ref ra, .int (nI r)] [bO ra 1 (rF rd (nI O.length) (nI S.length) b_ n_ p_ ky), bI g (rd 1) 96 cz, bI g (rd 2) 96 sz] (QV g (fun (u : DD) => CR u (closeD r O S).1 ∧ PR sz (closeD r O S).2) (fun u => [bO ra 1 (rF rd (nI ((closeD r O S).1).length) (nI ((closeD r O S).2).length) b_ n_ p_ ky), bI g (rd 1) 96 u, bI g (rd 2) 96 sz])) := by
  refine Ct.of (by decide) rfl ?_
  intro p e s m args below meth c A H locs ls Qf cf hr hlk hnm hQ hw hl
  have hx := cf.1
  have hb := cf.2.1
  have hml := cf.2.2.1
  have hown := cf.2.2.2.1
  have hts := cf.2.2.2.2
  have hw : WD g A s H locs [bO ra 1 (rF rd (nI O.length) (nI S.length) b_ n_ p_ ky), bI g (rd 1) 96 cz, bI g (rd 2) 96 sz] := hw
  have hl : lv_has ls 2 [(0, .ref ra), (1, .int (nI r))] := hl
  have L0 : ∀ (fu : Nat) (O1 S1 : List Int32) (cz : DD), (CR cz O1) → (PR sz S1) → (O1.length + S1.length ≤ 96) → (closeD r O S = closeD r O1 S1) → (S1.length < fu) → ∀ (H : Heap) (locs : List Loc) (ls : Array Slot), WD g A s H locs [bO ra 1 (rF rd (nI O1.length) (nI S1.length) b_ n_ p_ ky), bI g (rd 1) 96 cz, bI g (rd 2) 96 sz] → lv_has ls 2 [(0, .ref ra), (1, .int (nI r))] → W p l e (rmx 1 0 0) s m args below meth c H locs 0 0 Qf (F0 m 0 ls []) := by
    intro fu
    induction fu with
    | zero => intro O1 S1 cz hcz hsz hln heq hfu; exfalso; omega
    | succ fu ih0 =>
      intro O1 S1 cz hcz hsz hln heq hfu H locs ls hw hl
      refine lv_aload_n hx hb dX1_closeDownTo_0 rfl (lv_at hl 0 rfl) ?_
      refine s_get (v := .int (nI S1.length)) fb1 cf hw 0 rfl 3 rfl q226 rfl dX1_closeDownTo_1 ?_
      refine lv_if_le (tgt := 55) hx hb dX1_closeDownTo_4 (by decide) (fun c4 => ?_) (fun c4 => ?_)
      · have hS0 : S1 = [] := by cases S1 with | nil => rfl | cons x y => exact absurd c4 (nI_nle (by show 0 < y.length + 1; omega) (by have h2 : O1.length + (y.length + 1) ≤ 96 := hln; show y.length + 1 < _; omega))
        subst hS0
        have hE : closeD r O S = (O1, []) := heq
        exact s_vret cf hr hlk cz (by rw [hE]; exact hw) (⟨by rw [hE]; exact hcz, by rw [hE]; exact hsz⟩) (Nat.le_of_ble_eq_true rfl) (Nat.le_of_ble_eq_true rfl) dX1_closeDownTo_55 hQ
      · obtain ⟨x_, S2, hS2⟩ : ∃ x_ S2, S1 = x_ :: S2 := by cases S1 with | nil => exact absurd (by decide) c4 | cons x y => exact ⟨x, y, rfl⟩
        subst hS2
        have hw : WD g A s H locs [bO ra 1 (rF rd (nI O1.length) (nI (S2.length + 1)) b_ n_ p_ ky), bI g (rd 1) 96 cz, bI g (rd 2) 96 sz] := hw
        refine lv_aload_n hx hb dX1_closeDownTo_7 rfl (lv_at hl 0 rfl) ?_
        refine s_get (v := .ref (rd 2)) fb1 cf hw 0 rfl 1 rfl q224 rfl dX1_closeDownTo_8 ?_
        refine lv_aload_n hx hb dX1_closeDownTo_11 rfl (lv_at hl 0 rfl) ?_
        refine s_get (v := .int (nI (S2.length + 1))) fb1 cf hw 0 rfl 3 rfl q226 rfl dX1_closeDownTo_12 ?_
        refine lv_iconst (v := 1) hx hb dX1_closeDownTo_15 (by decide) ?_
        refine lv_isub hx hb dX1_closeDownTo_16 ?_
        refine s_iald (j := S2.length) cf hw 2 rfl (nI_pred S2.length) (by have h2 : O1.length + (S2.length + 1) ≤ 96 := hln; omega) rfl dX1_closeDownTo_17 ?_
        refine lv_topr (y := x_) (hsz.top) ?_
        refine s_calli (runS cf (x_rankOf x_) hw [] (by decide) rfl km_X1_rankOf ks_X1_rankOf q788 rfl rfl hl.1 rfl dX1_closeDownTo_18) hw [] (by decide) rfl (fun _ => rfl) (fun r_3 u_1 H locs hp_2 hw => ?_)
        have hw : WD g A s H locs [bO ra 1 (rF rd (nI O1.length) (nI (S2.length + 1)) b_ n_ p_ ky), bI g (rd 1) 96 cz, bI g (rd 2) 96 sz] := hw
        subst hp_2
        refine lv_iload_n hx hb dX1_closeDownTo_21 rfl (lv_at hl 1 rfl) ?_
        refine lv_icmp_lt (tgt := 55) hx hb dX1_closeDownTo_22 (by decide) (fun c22 => ?_) (fun c22 => ?_)
        · have hlt : ¬ r ≤ rk x_ := by rw [nI_ltI (by have := rk_le x_; omega) (by omega)] at c22; omega
          have hE : closeD r O S = (O1, x_ :: S2) := heq.trans (if_neg hlt)
          exact s_vret cf hr hlk cz (by rw [hE]; exact hw) (⟨by rw [hE]; exact hcz, by rw [hE]; exact hsz⟩) (Nat.le_of_ble_eq_true rfl) (Nat.le_of_ble_eq_true rfl) dX1_closeDownTo_55 hQ
        · have hge : r ≤ rk x_ := by rw [nI_ltI (by have := rk_le x_; omega) (by omega)] at c22; omega
          refine lv_aload_n hx hb dX1_closeDownTo_25 rfl (lv_at hl 0 rfl) ?_
          refine lv_dup hx hb dX1_closeDownTo_26 rfl ?_
          refine s_get (v := .int (nI (S2.length + 1))) fb1 cf hw 0 rfl 3 rfl q226 rfl dX1_closeDownTo_27 ?_
          refine lv_iconst (v := 1) hx hb dX1_closeDownTo_30 (by decide) ?_
          refine lv_isub hx hb dX1_closeDownTo_31 ?_
          refine lv_topr (y := nI S2.length) (nI_pred S2.length) ?_
          refine s_put (v := .int (nI S2.length)) fb1 cf hw 0 rfl 3 rfl q226 rfl rfl rfl rfl dX1_closeDownTo_32 (fun H locs hw => ?_)
          have hw : WD g A s H locs [bO ra 1 (rF rd (nI O1.length) (nI S2.length) b_ n_ p_ ky), bI g (rd 1) 96 cz, bI g (rd 2) 96 sz] := hw
          refine lv_aload_n hx hb dX1_closeDownTo_35 rfl (lv_at hl 0 rfl) ?_
          refine lv_sipush (v := 20000) hx hb dX1_closeDownTo_36 (by decide) ?_
          refine lv_aload_n hx hb dX1_closeDownTo_39 rfl (lv_at hl 0 rfl) ?_
          refine s_get (v := .ref (rd 2)) fb1 cf hw 0 rfl 1 rfl q224 rfl dX1_closeDownTo_40 ?_
          refine lv_aload_n hx hb dX1_closeDownTo_43 rfl (lv_at hl 0 rfl) ?_
          refine s_get (v := .int (nI S2.length)) fb1 cf hw 0 rfl 3 rfl q226 rfl dX1_closeDownTo_44 ?_
          refine s_iald (j := S2.length) cf hw 2 rfl (rfl) (by have h2 : O1.length + (S2.length + 1) ≤ 96 := hln; omega) rfl dX1_closeDownTo_47 ?_
          refine lv_topr (y := x_) (hsz.top) ?_
          refine lv_iadd hx hb dX1_closeDownTo_48 ?_
          refine s_callv (runV cf (x_write (ra := ra) (rd := rd) (ky := ky) (O := O1) (o_ := nI S2.length) (b_ := b_) (n_ := n_) (p_ := p_) (cz := cz) (by have h2 : O1.length + (S2.length + 1) ≤ 96 := hln; omega) (20000 + x_)) hw [0, 1] (by decide) rfl km_X1_write ki_X1_write q761 (run_recv (ci := 1) (T := TX1) (N := 8) hw 0 rfl rfl) rfl rfl hl.1 rfl dX1_closeDownTo_49) hw [0, 1] (by decide) rfl (fun _ => rfl) (fun u_4 H locs hp_5 hw => ?_)
          have hw : WD g A s H locs [bO ra 1 (rF rd (nI (O1.length + 1)) (nI S2.length) b_ n_ p_ ky), bI g (rd 1) 96 (upd cz O1.length (20000 + x_)), bI g (rd 2) 96 sz] := hw
          have hw : WD g A s H locs [bO ra 1 (rF rd (nI (O1 ++ [(20000 + x_)]).length) (nI S2.length) b_ n_ p_ ky), bI g (rd 1) 96 (upd cz O1.length (20000 + x_)), bI g (rd 2) 96 sz] := by rw [show (O1 ++ [((20000 + x_) : Int32)]).length = O1.length + 1 by rw [List.length_append]; rfl]; exact hw
          have hcz2 : CR _ (O1 ++ [20000 + x_]) := CR.snoc hcz
          refine lv_goto (tgt := 0) hx hb dX1_closeDownTo_52 (by decide) ?_
          exact ih0 (O1 ++ [20000 + x_]) S2 (upd cz O1.length (20000 + x_)) hcz2 hsz.pop (by rw [List.length_append]; show O1.length + 1 + _ ≤ 96; have h2 : O1.length + (S2.length + 1) ≤ 96 := hln; omega) (by rw [heq]; exact if_pos hge) (by have h2 : S2.length + 1 < fu + 1 := hfu; omega) _ _ _ hw (lv_sub hl [0, 1] rfl)
  exact L0 (S.length + 1) O S cz hcz hsz hln rfl (by omega) _ _ _ hw (lv_sub hl [0, 1] rfl)
set_option maxRecDepth 100000 in
set_option maxHeartbeats 4000000 in
theorem x_closeN {l : Launch} {g : GG} {ra : Nat} {rd : Nat → Nat} {ky : Int32} {b_ p_ : Int32} (O S : List Int32) (cz sz : DD) (hcz : CR cz O) (hsz : PR sz S) (hln : O.length + S.length ≤ 96) (nn : Nat) (hnn : nOK S nn) (hn9 : nn ≤ 100) : Ct l g yX1_closeNots cX1_closeNots 1 (Option.none : Option Jvm.ClassFile.FieldType) 1 0 0 [.ref ra] [bO ra 1 (rF rd (nI O.length) (nI S.length) b_ (nI nn) p_ ky), bI g (rd 1) 96 cz, bI g (rd 2) 96 sz] (QV g (fun (u : DD) => CR u (closeN O S nn).1 ∧ PR sz (closeN O S nn).2.1) (fun u => [bO ra 1 (rF rd (nI ((closeN O S nn).1).length) (nI ((closeN O S nn).2.1).length) b_ (nI ((closeN O S nn).2.2)) p_ ky), bI g (rd 1) 96 u, bI g (rd 2) 96 sz])) := by
  refine Ct.of (by decide) rfl ?_
  intro p e s m args below meth c A H locs ls Qf cf hr hlk hnm hQ hw hl
  have hx := cf.1
  have hb := cf.2.1
  have hml := cf.2.2.1
  have hown := cf.2.2.2.1
  have hts := cf.2.2.2.2
  have hw : WD g A s H locs [bO ra 1 (rF rd (nI O.length) (nI S.length) b_ (nI nn) p_ ky), bI g (rd 1) 96 cz, bI g (rd 2) 96 sz] := hw
  have hl : lv_has ls 1 [(0, .ref ra)] := hl
  have L0 : ∀ (fu : Nat) (O1 S1 : List Int32) (n1 : Nat) (cz : DD), (CR cz O1) → (PR sz S1) → (O1.length + S1.length ≤ 96) → (nOK S1 n1) → (closeN O S nn = closeN O1 S1 n1) → (S1.length < fu) → ∀ (H : Heap) (locs : List Loc) (ls : Array Slot), WD g A s H locs [bO ra 1 (rF rd (nI O1.length) (nI S1.length) b_ (nI n1) p_ ky), bI g (rd 1) 96 cz, bI g (rd 2) 96 sz] → lv_has ls 1 [(0, .ref ra)] → W p l e (rmx 1 0 0) s m args below meth c H locs 0 0 Qf (F0 m 0 ls []) := by
    intro fu
    induction fu with
    | zero => intro O1 S1 n1 cz hcz hsz hln hnn heq hfu; exfalso; omega
    | succ fu ih0 =>
      intro O1 S1 n1 cz hcz hsz hln hnn heq hfu H locs ls hw hl
      refine lv_aload_n hx hb dX1_closeNots_0 rfl (lv_at hl 0 rfl) ?_
      refine s_get (v := .int (nI S1.length)) fb1 cf hw 0 rfl 3 rfl q226 rfl dX1_closeNots_1 ?_
      refine lv_if_le (tgt := 53) hx hb dX1_closeNots_4 (by decide) (fun c4 => ?_) (fun c4 => ?_)
      · have hS0 : S1 = [] := by cases S1 with | nil => rfl | cons x y => exact absurd c4 (nI_nle (by show 0 < y.length + 1; omega) (by have h2 : O1.length + (y.length + 1) ≤ 96 := hln; show y.length + 1 < _; omega))
        subst hS0
        have hE : closeN O S nn = (O1, [], n1) := heq
        exact s_vret cf hr hlk cz (by rw [hE]; exact hw) (⟨by rw [hE]; exact hcz, by rw [hE]; exact hsz⟩) (Nat.le_of_ble_eq_true rfl) (Nat.le_of_ble_eq_true rfl) dX1_closeNots_53 hQ
      · obtain ⟨x_, S2, hS2⟩ : ∃ x_ S2, S1 = x_ :: S2 := by cases S1 with | nil => exact absurd (by decide) c4 | cons x y => exact ⟨x, y, rfl⟩
        subst hS2
        have hw : WD g A s H locs [bO ra 1 (rF rd (nI O1.length) (nI (S2.length + 1)) b_ (nI n1) p_ ky), bI g (rd 1) 96 cz, bI g (rd 2) 96 sz] := hw
        refine lv_aload_n hx hb dX1_closeNots_7 rfl (lv_at hl 0 rfl) ?_
        refine s_get (v := .ref (rd 2)) fb1 cf hw 0 rfl 1 rfl q224 rfl dX1_closeNots_8 ?_
        refine lv_aload_n hx hb dX1_closeNots_11 rfl (lv_at hl 0 rfl) ?_
        refine s_get (v := .int (nI (S2.length + 1))) fb1 cf hw 0 rfl 3 rfl q226 rfl dX1_closeNots_12 ?_
        refine lv_iconst (v := 1) hx hb dX1_closeNots_15 (by decide) ?_
        refine lv_isub hx hb dX1_closeNots_16 ?_
        refine s_iald (j := S2.length) cf hw 2 rfl (nI_pred S2.length) (by have h2 : O1.length + (S2.length + 1) ≤ 96 := hln; omega) rfl dX1_closeNots_17 ?_
        refine lv_topr (y := x_) (hsz.top) ?_
        refine lv_bipush (v := 33) hx hb dX1_closeNots_18 (by decide) ?_
        refine lv_icmp_ne (tgt := 53) hx hb dX1_closeNots_20 (by decide) (fun c20 => ?_) (fun c20 => ?_)
        · have hE : closeN O S nn = (O1, x_ :: S2, n1) := heq.trans (if_neg c20)
          exact s_vret cf hr hlk cz (by rw [hE]; exact hw) (⟨by rw [hE]; exact hcz, by rw [hE]; exact hsz⟩) (Nat.le_of_ble_eq_true rfl) (Nat.le_of_ble_eq_true rfl) dX1_closeNots_53 hQ
        · have hn1 : 0 < n1 ∧ nOK S2 (n1 - 1) := by unfold nOK cntN at hnn; rw [if_pos c20] at hnn; unfold nOK; omega
          have hnn2 := hn1.2
          refine lv_aload_n hx hb dX1_closeNots_23 rfl (lv_at hl 0 rfl) ?_
          refine lv_dup hx hb dX1_closeNots_24 rfl ?_
          refine s_get (v := .int (nI (S2.length + 1))) fb1 cf hw 0 rfl 3 rfl q226 rfl dX1_closeNots_25 ?_
          refine lv_iconst (v := 1) hx hb dX1_closeNots_28 (by decide) ?_
          refine lv_isub hx hb dX1_closeNots_29 ?_
          refine lv_topr (y := nI S2.length) (nI_pred S2.length) ?_
          refine s_put (v := .int (nI S2.length)) fb1 cf hw 0 rfl 3 rfl q226 rfl rfl rfl rfl dX1_closeNots_30 (fun H locs hw => ?_)
          have hw : WD g A s H locs [bO ra 1 (rF rd (nI O1.length) (nI S2.length) b_ (nI n1) p_ ky), bI g (rd 1) 96 cz, bI g (rd 2) 96 sz] := hw
          refine lv_aload_n hx hb dX1_closeNots_33 rfl (lv_at hl 0 rfl) ?_
          refine lv_dup hx hb dX1_closeNots_34 rfl ?_
          refine s_get (v := .int (nI n1)) fb1 cf hw 0 rfl 5 rfl q228 rfl dX1_closeNots_35 ?_
          refine lv_iconst (v := 1) hx hb dX1_closeNots_38 (by decide) ?_
          refine lv_isub hx hb dX1_closeNots_39 ?_
          refine lv_topr (y := nI (n1 - 1)) (by have h3 := hn1.1; exact pk_sub (b := 1) (by omega)) ?_
          refine s_put (v := .int (nI (n1 - 1))) fb1 cf hw 0 rfl 5 rfl q228 rfl rfl rfl rfl dX1_closeNots_40 (fun H locs hw => ?_)
          have hw : WD g A s H locs [bO ra 1 (rF rd (nI O1.length) (nI S2.length) b_ (nI (n1 - 1)) p_ ky), bI g (rd 1) 96 cz, bI g (rd 2) 96 sz] := hw
          refine lv_aload_n hx hb dX1_closeNots_43 rfl (lv_at hl 0 rfl) ?_
          refine lv_sipush (v := 20033) hx hb dX1_closeNots_44 (by decide) ?_
          refine s_callv (runV cf (x_write (ra := ra) (rd := rd) (ky := ky) (O := O1) (o_ := nI S2.length) (b_ := b_) (n_ := nI (n1 - 1)) (p_ := p_) (cz := cz) (by have h2 : O1.length + (S2.length + 1) ≤ 96 := hln; omega) 20033) hw [0, 1] (by decide) rfl km_X1_write ki_X1_write q761 (run_recv (ci := 1) (T := TX1) (N := 8) hw 0 rfl rfl) rfl rfl hl.1 rfl dX1_closeNots_47) hw [0, 1] (by decide) rfl (fun _ => rfl) (fun u_1 H locs hp_2 hw => ?_)
          have hw : WD g A s H locs [bO ra 1 (rF rd (nI (O1.length + 1)) (nI S2.length) b_ (nI (n1 - 1)) p_ ky), bI g (rd 1) 96 (upd cz O1.length 20033), bI g (rd 2) 96 sz] := hw
          have hw : WD g A s H locs [bO ra 1 (rF rd (nI (O1 ++ [20033]).length) (nI S2.length) b_ (nI (n1 - 1)) p_ ky), bI g (rd 1) 96 (upd cz O1.length 20033), bI g (rd 2) 96 sz] := by rw [show (O1 ++ [(20033 : Int32)]).length = O1.length + 1 by rw [List.length_append]; rfl]; exact hw
          have hcz2 : CR _ (O1 ++ [20033]) := CR.snoc hcz
          refine lv_goto (tgt := 0) hx hb dX1_closeNots_50 (by decide) ?_
          exact ih0 (O1 ++ [20033]) S2 (n1 - 1) (upd cz O1.length 20033) hcz2 hsz.pop (by rw [List.length_append]; show O1.length + 1 + _ ≤ 96; have h2 : O1.length + (S2.length + 1) ≤ 96 := hln; omega) hnn2 (by rw [heq]; exact if_pos c20) (by have h2 : S2.length + 1 < fu + 1 := hfu; omega) _ _ _ hw (lv_sub hl [0] rfl)
  exact L0 (S.length + 1) O S nn cz hcz hsz hln hnn rfl (by omega) _ _ _ hw (lv_sub hl [0] rfl)
