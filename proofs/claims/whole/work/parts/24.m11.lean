set_option maxRecDepth 100000 in
set_option maxHeartbeats 4000000 in
theorem m_trim {l : Launch} {g : GG} {a : Nat} {ad : Nat → Nat} {fs : List Value} (hf : MF ad fs) {tp : Int32} (htp : fs[11]? = some (.int tp)) (x : Int32) : Ct l g yX7_trim cX7_trim 2 (Option.some Jvm.ClassFile.FieldType.int) 1 0 0 [.ref a, .int x] [bO a 7 fs] (QI g (fun r (_ : Unit) => r = if 0 ≤ x ∧ x ≤ tp then x else -1000000001) (fun _ => [bO a 7 (if 0 ≤ x ∧ x ≤ tp then fs.set 11 (.int x) else fs)])) := by
  refine Ct.of (by decide) rfl ?_
  intro p e s m args below meth c A H locs ls Qf cf hr hlk hnm hQ hw hl
  have hx := cf.1
  have hb := cf.2.1
  have hml := cf.2.2.1
  have hown := cf.2.2.2.1
  have hts := cf.2.2.2.2
  have hw : WD g A s H locs [bO a 7 fs] := hw
  have hl : lv_has ls 2 [(0, .ref a), (1, .int x)] := hl
  refine lv_iload_n hx hb dX7_trim_0 rfl (lv_at hl 1 rfl) ?_
  refine lv_i2l (v := (x : Int32).toInt64) hx hb dX7_trim_1 rfl ?_
  refine lv_lconst (v := (0 : Int32).toInt64) hx hb dX7_trim_2 (by decide) ?_
  refine lv_aload_n hx hb dX7_trim_3 rfl (lv_at hl 0 rfl) ?_
  refine s_get (v := .int tp) fb7 cf hw 0 rfl 11 rfl q932 htp dX7_trim_4 ?_
  refine lv_i2l (v := (tp : Int32).toInt64) hx hb dX7_trim_7 rfl ?_
  refine s_calli (runS cf (m_in (x : Int32) (0 : Int32) (tp : Int32)) hw [] (by decide) rfl km_X7_in ks_X7_in q1045 rfl rfl hl.1 rfl dX7_trim_8) hw [] (by decide) rfl (fun _ => rfl) (fun r_3 u_1 H locs hp_2 hw => ?_)
  have hw : WD g A s H locs [bO a 7 fs] := hw
  subst hp_2
  refine lv_if_ne (tgt := 17) hx hb dX7_trim_11 (by decide) (fun c11 => ?_) (fun c11 => ?_)
  · have c11 := b01_n c11
    refine lv_aload_n hx hb dX7_trim_17 rfl (lv_at hl 0 rfl) ?_
    refine lv_iload_n hx hb dX7_trim_18 rfl (lv_at hl 1 rfl) ?_
    refine s_put (v := .int x) fb7 cf hw 0 rfl 11 rfl q932 rfl rfl rfl (by first | exact hf.len 11 (by decide) | (simp only [List.length_set]; exact hf.len 11 (by decide))) dX7_trim_19 (fun H locs hw => ?_)
    have hw : WD g A s H locs [bO a 7 (fs.set 11 (.int x))] := hw
    refine lv_iload_n hx hb dX7_trim_22 rfl (lv_at hl 1 rfl) ?_
    exact s_iret cf hr hlk () (by rw [if_pos c11]; exact hw) (by rw [if_pos c11]) (Nat.le_of_ble_eq_true rfl) (Nat.le_of_ble_eq_true rfl) dX7_trim_23 hQ
  · have c11 := b01_z c11
    refine lv_ldc hx hb hown (hts _ q1049) dX7_trim_14 ?_
    exact s_iret cf hr hlk () (by rw [if_neg c11]; exact hw) (by rw [if_neg c11]) (Nat.le_of_ble_eq_true rfl) (Nat.le_of_ble_eq_true rfl) dX7_trim_16 hQ
set_option maxRecDepth 100000 in
set_option maxHeartbeats 4000000 in
theorem m_feed {l : Launch} {g : GG} {a : Nat} {ad : Nat → Nat} {fs : List Value} (hf : MF ad fs) {ta : DD} {tp : Nat} (htp : fs[11]? = some (.int (nI tp))) (htp96 : tp ≤ 96) (x y z : Int32) : Ct l g yX7_feed cX7_feed 6 (Option.some Jvm.ClassFile.FieldType.int) 0 0 0 [.ref a, .int x, .int y, .int z] [bO a 7 fs, bI g (ad 10) 96 ta] (QI g (fun r (_ : Unit) => r = if tp + 12 ≤ 96 then nI (tp + 12) else -1000000003) (fun _ => [bO a 7 (if tp + 12 ≤ 96 then fs.set 11 (.int (nI (tp + 12))) else fs), bI g (ad 10) 96 (if tp + 12 ≤ 96 then feedF x y z tp 12 ta else ta)])) := by
  refine Ct.of (by decide) rfl ?_
  intro p e s m args below meth c A H locs ls Qf cf hr hlk hnm hQ hw hl
  have hx := cf.1
  have hb := cf.2.1
  have hml := cf.2.2.1
  have hown := cf.2.2.2.1
  have hts := cf.2.2.2.2
  have hw : WD g A s H locs [bO a 7 fs, bI g (ad 10) 96 ta] := hw
  have hl : lv_has ls 6 [(0, .ref a), (1, .int x), (2, .int y), (3, .int z)] := hl
  obtain ⟨fs0, hfs0⟩ : ∃ q : List Value, q = fs := ⟨_, rfl⟩
  refine lv_aload_n hx hb dX7_feed_0 rfl (lv_at hl 0 rfl) ?_
  refine s_get (v := .int (nI tp)) fb7 cf hw 0 rfl 11 rfl q932 htp dX7_feed_1 ?_
  refine lv_bipush (v := 12) hx hb dX7_feed_4 (by decide) ?_
  refine lv_iadd hx hb dX7_feed_6 ?_
  refine lv_bipush (v := 96) hx hb dX7_feed_7 (by decide) ?_
  refine lv_icmp_le (tgt := 15) hx hb dX7_feed_9 (by decide) (fun c9 => ?_) (fun c9 => ?_)
  · have hfit : tp + 12 ≤ 96 := by rw [show (nI tp + 12 : Int32) = nI (tp + 12) from nI_add tp 12] at c9; exact nI_le_of (i := 96) (by omega) c9 (by omega)
    refine lv_iconst (v := 0) hx hb dX7_feed_15 (by decide) ?_
    refine lv_istore (lv' := [(4, .int 0), (0, .ref a), (1, .int x), (2, .int y), (3, .int z)]) hx hb dX7_feed_16 hl (by decide) rfl (fun ls hl => ?_)
    have L18 : ∀ (fu : Nat) (i : Nat) (fs : List Value), (i ≤ 12) → (12 < i + fu) → (MF ad fs) → (fs[11]? = some (.int (nI (tp + i)))) → (fs.set 11 (.int (nI (tp + 12))) = fs0.set 11 (.int (nI (tp + 12)))) → ∀ (H : Heap) (locs : List Loc) (ls : Array Slot), WD g A s H locs [bO a 7 fs, bI g (ad 10) 96 (feedF x y z tp i ta)] → lv_has ls 6 [(0, .ref a), (1, .int x), (2, .int y), (3, .int z), (4, .int (nI i))] → W p l e (rmx 0 0 0) s m args below meth c H locs 0 0 Qf (F0 m 18 ls []) := by
      intro fu
      induction fu with
      | zero => intro i fs hi hfu hf htp2 hfs; exfalso; omega
      | succ fu ih18 =>
        intro i fs hi hfu hf htp2 hfs H locs ls hw hl
        refine lv_iload hx hb dX7_feed_18 (lv_at hl 4 rfl) ?_
        refine lv_bipush (v := 12) hx hb dX7_feed_20 (by decide) ?_
        refine lv_icmp_ge (tgt := 91) hx hb dX7_feed_22 (by decide) (fun c22 => ?_) (fun c22 => ?_)
        · have hi2 : i = 12 := by have := nI_le_of (n := 12) (by omega) c22 (by omega); omega
          refine lv_aload_n hx hb dX7_feed_91 rfl (lv_at hl 0 rfl) ?_
          refine s_get (v := .int (nI (tp + i))) fb7 cf hw 0 rfl 11 rfl q932 htp2 dX7_feed_92 ?_
          exact s_iret cf hr hlk () (by rw [if_pos hfit, if_pos hfit]; rw [hfs0] at hfs; rw [hi2] at hw htp2; have q : fs.set 11 (.int (nI (tp + 12))) = fs := (by obtain ⟨hl, he⟩ := List.getElem?_eq_some_iff.mp htp2; rw [← he, List.set_getElem_self]); rw [q] at hfs; rw [← hfs]; exact hw) (by rw [if_pos hfit, hi2]) (Nat.le_of_ble_eq_true rfl) (Nat.le_of_ble_eq_true rfl) dX7_feed_95 hQ
        · have hlt : i < 12 := nI_lt_of (n := 12) (by omega) c22 (by omega)
          refine lv_iload hx hb dX7_feed_25 (lv_at hl 4 rfl) ?_
          refine lv_iconst (v := 4) hx hb dX7_feed_27 (by decide) ?_
          refine lv_icmp_ge (tgt := 35) hx hb dX7_feed_28 (by decide) (fun c28 => ?_) (fun c28 => ?_)
          · refine lv_iload hx hb dX7_feed_35 (lv_at hl 4 rfl) ?_
            refine lv_bipush (v := 8) hx hb dX7_feed_37 (by decide) ?_
            refine lv_icmp_ge (tgt := 46) hx hb dX7_feed_39 (by decide) (fun c39 => ?_) (fun c39 => ?_)
            · refine lv_iload_n hx hb dX7_feed_46 rfl (lv_at hl 3 rfl) ?_
              refine lv_topr (y := feedW x y z i) (((if_neg (by have := nI_le_of (n := 4) (by omega) c28 (by omega); omega)).trans (if_neg (by have := nI_le_of (n := 8) (by omega) c39 (by omega); omega))).symm) ?_
              refine lv_istore (lv' := [(5, .int (feedW x y z i)), (0, .ref a), (1, .int x), (2, .int y), (3, .int z), (4, .int (nI i))]) hx hb dX7_feed_47 hl (by decide) rfl (fun ls hl => ?_)
              refine lv_aload_n hx hb dX7_feed_49 rfl (lv_at hl 1 rfl) ?_
              refine s_get (v := .ref (ad 10)) fb7 cf hw 0 rfl 10 rfl q931 (hf.2 10 rfl) dX7_feed_50 ?_
              refine lv_aload_n hx hb dX7_feed_53 rfl (lv_at hl 1 rfl) ?_
              refine s_get (v := .int (nI (tp + i))) fb7 cf hw 0 rfl 11 rfl q932 htp2 dX7_feed_54 ?_
              refine lv_iload hx hb dX7_feed_57 (lv_at hl 0 rfl) ?_
              refine lv_bipush (v := 24) hx hb dX7_feed_59 (by decide) ?_
              refine lv_bipush (v := 8) hx hb dX7_feed_61 (by decide) ?_
              refine lv_iload hx hb dX7_feed_63 (lv_at hl 5 rfl) ?_
              refine lv_iconst (v := 4) hx hb dX7_feed_65 (by decide) ?_
              refine lv_irem hx hb dX7_feed_66 (by decide) ?_
              refine lv_imul hx hb dX7_feed_67 ?_
              refine lv_isub hx hb dX7_feed_68 ?_
              refine lv_topr (y := nI (24 - 8 * (i % 4))) (by rw [show (nI i - nI i / 4 * 4 : Int32) = nI (i % 4) from rem_nat (b := 4) (by omega) (by omega) (by omega), show (8 * nI (i % 4) : Int32) = nI (8 * (i % 4)) from pk_mul 8 _]; exact pk_sub (a := 24) (by omega)) ?_
              refine lv_iushr (v := ((feedW x y z i).toUInt32 >>> ((nI (24 - 8 * (i % 4)) : Int32).toUInt32 &&& Int32.toUInt32 31)).toInt32) hx hb dX7_feed_69 rfl ?_
              refine lv_sipush (v := 255) hx hb dX7_feed_70 (by decide) ?_
              refine lv_iand hx hb dX7_feed_73 ?_
              refine lv_topr (y := feedV x y z i) (rfl) ?_
              refine s_iast (j := (tp + i)) cf hw 1 rfl (rfl) (by omega) rfl dX7_feed_74 (fun H locs hw => ?_)
              have hw : WD g A s H locs [bO a 7 fs, bI g (ad 10) 96 (upd (feedF x y z tp i ta) (tp + i) (feedV x y z i))] := hw
              refine lv_aload_n hx hb dX7_feed_75 rfl (lv_at hl 1 rfl) ?_
              refine lv_dup hx hb dX7_feed_76 rfl ?_
              refine s_get (v := .int (nI (tp + i))) fb7 cf hw 0 rfl 11 rfl q932 htp2 dX7_feed_77 ?_
              refine lv_iconst (v := 1) hx hb dX7_feed_80 (by decide) ?_
              refine lv_iadd hx hb dX7_feed_81 ?_
              refine lv_topr (y := nI (tp + (i + 1))) (nI_1 (tp + i)) ?_
              refine s_put (v := .int (nI (tp + (i + 1)))) fb7 cf hw 0 rfl 11 rfl q932 rfl rfl rfl (by first | exact hf.len 11 (by decide) | (simp only [List.length_set]; exact hf.len 11 (by decide))) dX7_feed_82 (fun H locs hw => ?_)
              have hw : WD g A s H locs [bO a 7 (fs.set 11 (.int (nI (tp + (i + 1))))), bI g (ad 10) 96 (upd (feedF x y z tp i ta) (tp + i) (feedV x y z i))] := hw
              refine lv_iinc (v := nI (i + 1)) (lv' := [(4, .int (nI (i + 1))), (5, .int (feedW x y z i)), (0, .ref a), (1, .int x), (2, .int y), (3, .int z)]) hx hb dX7_feed_85 hl (k := 5) rfl (nI_1 i) (by decide) rfl (fun ls hl => ?_)
              refine lv_goto (tgt := 18) hx hb dX7_feed_88 (by decide) ?_
              exact ih18 (i + 1) (fs.set 11 (.int (nI (tp + (i + 1))))) (by omega) (by omega) (hf.set rfl) (List.getElem?_set_self (Nat.le_of_ble_eq_true (hf.len 11 (by decide)))) (by rw [List.set_set]; exact hfs) _ _ _ hw (lv_sub hl [2, 3, 4, 5, 0] rfl)
            · refine lv_iload_n hx hb dX7_feed_42 rfl (lv_at hl 2 rfl) ?_
              refine lv_goto (tgt := 47) hx hb dX7_feed_43 (by decide) ?_
              refine lv_topr (y := feedW x y z i) (((if_neg (by have := nI_le_of (n := 4) (by omega) c28 (by omega); omega)).trans (if_pos (nI_lt_of (n := 8) (by omega) c39 (by omega)))).symm) ?_
              refine lv_istore (lv' := [(5, .int (feedW x y z i)), (0, .ref a), (1, .int x), (2, .int y), (3, .int z), (4, .int (nI i))]) hx hb dX7_feed_47 hl (by decide) rfl (fun ls hl => ?_)
              refine lv_aload_n hx hb dX7_feed_49 rfl (lv_at hl 1 rfl) ?_
              refine s_get (v := .ref (ad 10)) fb7 cf hw 0 rfl 10 rfl q931 (hf.2 10 rfl) dX7_feed_50 ?_
              refine lv_aload_n hx hb dX7_feed_53 rfl (lv_at hl 1 rfl) ?_
              refine s_get (v := .int (nI (tp + i))) fb7 cf hw 0 rfl 11 rfl q932 htp2 dX7_feed_54 ?_
              refine lv_iload hx hb dX7_feed_57 (lv_at hl 0 rfl) ?_
              refine lv_bipush (v := 24) hx hb dX7_feed_59 (by decide) ?_
              refine lv_bipush (v := 8) hx hb dX7_feed_61 (by decide) ?_
              refine lv_iload hx hb dX7_feed_63 (lv_at hl 5 rfl) ?_
              refine lv_iconst (v := 4) hx hb dX7_feed_65 (by decide) ?_
              refine lv_irem hx hb dX7_feed_66 (by decide) ?_
              refine lv_imul hx hb dX7_feed_67 ?_
              refine lv_isub hx hb dX7_feed_68 ?_
              refine lv_topr (y := nI (24 - 8 * (i % 4))) (by rw [show (nI i - nI i / 4 * 4 : Int32) = nI (i % 4) from rem_nat (b := 4) (by omega) (by omega) (by omega), show (8 * nI (i % 4) : Int32) = nI (8 * (i % 4)) from pk_mul 8 _]; exact pk_sub (a := 24) (by omega)) ?_
              refine lv_iushr (v := ((feedW x y z i).toUInt32 >>> ((nI (24 - 8 * (i % 4)) : Int32).toUInt32 &&& Int32.toUInt32 31)).toInt32) hx hb dX7_feed_69 rfl ?_
              refine lv_sipush (v := 255) hx hb dX7_feed_70 (by decide) ?_
              refine lv_iand hx hb dX7_feed_73 ?_
              refine lv_topr (y := feedV x y z i) (rfl) ?_
              refine s_iast (j := (tp + i)) cf hw 1 rfl (rfl) (by omega) rfl dX7_feed_74 (fun H locs hw => ?_)
              have hw : WD g A s H locs [bO a 7 fs, bI g (ad 10) 96 (upd (feedF x y z tp i ta) (tp + i) (feedV x y z i))] := hw
              refine lv_aload_n hx hb dX7_feed_75 rfl (lv_at hl 1 rfl) ?_
              refine lv_dup hx hb dX7_feed_76 rfl ?_
              refine s_get (v := .int (nI (tp + i))) fb7 cf hw 0 rfl 11 rfl q932 htp2 dX7_feed_77 ?_
              refine lv_iconst (v := 1) hx hb dX7_feed_80 (by decide) ?_
              refine lv_iadd hx hb dX7_feed_81 ?_
              refine lv_topr (y := nI (tp + (i + 1))) (nI_1 (tp + i)) ?_
              refine s_put (v := .int (nI (tp + (i + 1)))) fb7 cf hw 0 rfl 11 rfl q932 rfl rfl rfl (by first | exact hf.len 11 (by decide) | (simp only [List.length_set]; exact hf.len 11 (by decide))) dX7_feed_82 (fun H locs hw => ?_)
              have hw : WD g A s H locs [bO a 7 (fs.set 11 (.int (nI (tp + (i + 1))))), bI g (ad 10) 96 (upd (feedF x y z tp i ta) (tp + i) (feedV x y z i))] := hw
              refine lv_iinc (v := nI (i + 1)) (lv' := [(4, .int (nI (i + 1))), (5, .int (feedW x y z i)), (0, .ref a), (1, .int x), (2, .int y), (3, .int z)]) hx hb dX7_feed_85 hl (k := 5) rfl (nI_1 i) (by decide) rfl (fun ls hl => ?_)
              refine lv_goto (tgt := 18) hx hb dX7_feed_88 (by decide) ?_
              exact ih18 (i + 1) (fs.set 11 (.int (nI (tp + (i + 1))))) (by omega) (by omega) (hf.set rfl) (List.getElem?_set_self (Nat.le_of_ble_eq_true (hf.len 11 (by decide)))) (by rw [List.set_set]; exact hfs) _ _ _ hw (lv_sub hl [2, 3, 4, 5, 0] rfl)
          · refine lv_iload_n hx hb dX7_feed_31 rfl (lv_at hl 1 rfl) ?_
            refine lv_goto (tgt := 47) hx hb dX7_feed_32 (by decide) ?_
            refine lv_topr (y := feedW x y z i) ((if_pos (nI_lt_of (n := 4) (by omega) c28 (by omega))).symm) ?_
            refine lv_istore (lv' := [(5, .int (feedW x y z i)), (0, .ref a), (1, .int x), (2, .int y), (3, .int z), (4, .int (nI i))]) hx hb dX7_feed_47 hl (by decide) rfl (fun ls hl => ?_)
            refine lv_aload_n hx hb dX7_feed_49 rfl (lv_at hl 1 rfl) ?_
            refine s_get (v := .ref (ad 10)) fb7 cf hw 0 rfl 10 rfl q931 (hf.2 10 rfl) dX7_feed_50 ?_
            refine lv_aload_n hx hb dX7_feed_53 rfl (lv_at hl 1 rfl) ?_
            refine s_get (v := .int (nI (tp + i))) fb7 cf hw 0 rfl 11 rfl q932 htp2 dX7_feed_54 ?_
            refine lv_iload hx hb dX7_feed_57 (lv_at hl 0 rfl) ?_
            refine lv_bipush (v := 24) hx hb dX7_feed_59 (by decide) ?_
            refine lv_bipush (v := 8) hx hb dX7_feed_61 (by decide) ?_
            refine lv_iload hx hb dX7_feed_63 (lv_at hl 5 rfl) ?_
            refine lv_iconst (v := 4) hx hb dX7_feed_65 (by decide) ?_
            refine lv_irem hx hb dX7_feed_66 (by decide) ?_
            refine lv_imul hx hb dX7_feed_67 ?_
            refine lv_isub hx hb dX7_feed_68 ?_
            refine lv_topr (y := nI (24 - 8 * (i % 4))) (by rw [show (nI i - nI i / 4 * 4 : Int32) = nI (i % 4) from rem_nat (b := 4) (by omega) (by omega) (by omega), show (8 * nI (i % 4) : Int32) = nI (8 * (i % 4)) from pk_mul 8 _]; exact pk_sub (a := 24) (by omega)) ?_
            refine lv_iushr (v := ((feedW x y z i).toUInt32 >>> ((nI (24 - 8 * (i % 4)) : Int32).toUInt32 &&& Int32.toUInt32 31)).toInt32) hx hb dX7_feed_69 rfl ?_
            refine lv_sipush (v := 255) hx hb dX7_feed_70 (by decide) ?_
            refine lv_iand hx hb dX7_feed_73 ?_
            refine lv_topr (y := feedV x y z i) (rfl) ?_
            refine s_iast (j := (tp + i)) cf hw 1 rfl (rfl) (by omega) rfl dX7_feed_74 (fun H locs hw => ?_)
            have hw : WD g A s H locs [bO a 7 fs, bI g (ad 10) 96 (upd (feedF x y z tp i ta) (tp + i) (feedV x y z i))] := hw
            refine lv_aload_n hx hb dX7_feed_75 rfl (lv_at hl 1 rfl) ?_
            refine lv_dup hx hb dX7_feed_76 rfl ?_
            refine s_get (v := .int (nI (tp + i))) fb7 cf hw 0 rfl 11 rfl q932 htp2 dX7_feed_77 ?_
            refine lv_iconst (v := 1) hx hb dX7_feed_80 (by decide) ?_
            refine lv_iadd hx hb dX7_feed_81 ?_
            refine lv_topr (y := nI (tp + (i + 1))) (nI_1 (tp + i)) ?_
            refine s_put (v := .int (nI (tp + (i + 1)))) fb7 cf hw 0 rfl 11 rfl q932 rfl rfl rfl (by first | exact hf.len 11 (by decide) | (simp only [List.length_set]; exact hf.len 11 (by decide))) dX7_feed_82 (fun H locs hw => ?_)
            have hw : WD g A s H locs [bO a 7 (fs.set 11 (.int (nI (tp + (i + 1))))), bI g (ad 10) 96 (upd (feedF x y z tp i ta) (tp + i) (feedV x y z i))] := hw
            refine lv_iinc (v := nI (i + 1)) (lv' := [(4, .int (nI (i + 1))), (5, .int (feedW x y z i)), (0, .ref a), (1, .int x), (2, .int y), (3, .int z)]) hx hb dX7_feed_85 hl (k := 5) rfl (nI_1 i) (by decide) rfl (fun ls hl => ?_)
            refine lv_goto (tgt := 18) hx hb dX7_feed_88 (by decide) ?_
            exact ih18 (i + 1) (fs.set 11 (.int (nI (tp + (i + 1))))) (by omega) (by omega) (hf.set rfl) (List.getElem?_set_self (Nat.le_of_ble_eq_true (hf.len 11 (by decide)))) (by rw [List.set_set]; exact hfs) _ _ _ hw (lv_sub hl [2, 3, 4, 5, 0] rfl)
    exact L18 13 0 fs (by omega) (by omega) hf htp (by rw [hfs0]) _ _ _ hw (lv_sub hl [1, 2, 3, 4, 0] rfl)
  · have hfit : ¬ tp + 12 ≤ 96 := fun q => c9 (by rw [show (nI tp + 12 : Int32) = nI (tp + 12) from nI_add tp 12]; exact nI_le (b := 96) q (by omega))
    refine lv_ldc hx hb hown (hts _ q1050) dX7_feed_12 ?_
    exact s_iret cf hr hlk () (by rw [if_neg hfit, if_neg hfit]; exact hw) (by rw [if_neg hfit]) (Nat.le_of_ble_eq_true rfl) (Nat.le_of_ble_eq_true rfl) dX7_feed_14 hQ
set_option maxRecDepth 100000 in
set_option maxHeartbeats 4000000 in
theorem m_copy {l : Launch} {g : GG} {a : Nat} {ad : Nat → Nat} {fs : List Value} (hf : MF ad fs) {so sz nu isn ca ar : DD} (hsz : SzOK sz) (hb01 : ∀ j, isn j = 0 ∨ isn j = 1) (x p_ y r_ m_ : Int32) : Ct l g yX7_copy cX7_copy 7 (Option.some Jvm.ClassFile.FieldType.int) 2 0 0 [.ref a, .int x, .int p_, .int y, .int r_, .int m_] [bO a 7 fs, bI g (ad 24) 4 so, bI g (ad 25) 4 sz, bI g (ad 26) 96 nu, bZ g (ad 27) 96 isn, bI g (ad 29) 24 ca, bZ g (ad 30) 24 ar] (QI g (fun r (_ : DD × DD) => r = R_copy so sz x p_ y r_ m_) (fun u => [bO a 7 fs, bI g (ad 24) 4 so, bI g (ad 25) 4 sz, bI g (ad 26) 96 (D_copy so sz nu x p_ y r_ m_), bZ g (ad 27) 96 (D_copy so sz isn x p_ y r_ m_), bI g (ad 29) 24 u.1, bZ g (ad 30) 24 u.2])) := by
  refine Ct.of (by decide) rfl ?_
  intro p e s m args below meth c A H locs ls Qf cf hr hlk hnm hQ hw hl
  have hx := cf.1
  have hb := cf.2.1
  have hml := cf.2.2.1
  have hown := cf.2.2.2.1
  have hts := cf.2.2.2.2
  have hw : WD g A s H locs [bO a 7 fs, bI g (ad 24) 4 so, bI g (ad 25) 4 sz, bI g (ad 26) 96 nu, bZ g (ad 27) 96 isn, bI g (ad 29) 24 ca, bZ g (ad 30) 24 ar] := hw
  have hl : lv_has ls 7 [(0, .ref a), (1, .int x), (2, .int p_), (3, .int y), (4, .int r_), (5, .int m_)] := hl
  refine lv_iload_n hx hb dX7_copy_0 rfl (lv_at hl 1 rfl) ?_
  refine s_calli (runS cf (m_isSheet x) hw [] (by decide) rfl km_X7_isSheet ks_X7_isSheet q1243 rfl rfl hl.1 rfl dX7_copy_1) hw [] (by decide) rfl (fun _ => rfl) (fun r_3 u_1 H locs hp_2 hw => ?_)
  have hw : WD g A s H locs [bO a 7 fs, bI g (ad 24) 4 so, bI g (ad 25) 4 sz, bI g (ad 26) 96 nu, bZ g (ad 27) 96 isn, bI g (ad 29) 24 ca, bZ g (ad 30) 24 ar] := hw
  subst hp_2
  refine lv_if_eq (tgt := 14) hx hb dX7_copy_4 (by decide) (fun c4 => ?_) (fun c4 => ?_)
  · have c4 := b01_z c4
    refine lv_ldc hx hb hown (hts _ q1049) dX7_copy_14 ?_
    exact s_iret cf hr hlk (ca, ar) (by rw [show D_copy so sz nu x p_ y r_ m_ = nu from if_neg (by grind), show D_copy so sz isn x p_ y r_ m_ = isn from if_neg (by grind)]; exact hw) (by unfold R_copy; rw [if_neg (by grind)]) (Nat.le_of_ble_eq_true rfl) (Nat.le_of_ble_eq_true rfl) dX7_copy_16 hQ
  · have c4 := b01_n c4
    refine lv_iload_n hx hb dX7_copy_7 rfl (lv_at hl 3 rfl) ?_
    refine s_calli (runS cf (m_isSheet y) hw [] (by decide) rfl km_X7_isSheet ks_X7_isSheet q1243 rfl rfl hl.1 rfl dX7_copy_8) hw [] (by decide) rfl (fun _ => rfl) (fun r_6 u_4 H locs hp_5 hw => ?_)
    have hw : WD g A s H locs [bO a 7 fs, bI g (ad 24) 4 so, bI g (ad 25) 4 sz, bI g (ad 26) 96 nu, bZ g (ad 27) 96 isn, bI g (ad 29) 24 ca, bZ g (ad 30) 24 ar] := hw
    subst hp_5
    refine lv_if_ne (tgt := 17) hx hb dX7_copy_11 (by decide) (fun c11 => ?_) (fun c11 => ?_)
    · have c11 := b01_n c11
      obtain ⟨k, hk, hkx⟩ := rng_nat (m := 3) (by omega) c4.1 c4.2
      subst hkx
      have hclk : (nI k).toNatClampNeg = k := nI_clamp (by omega)
      obtain ⟨q, hq, hqx⟩ := rng_nat (m := 3) (by omega) c11.1 c11.2
      subst hqx
      have hclq : (nI q).toNatClampNeg = q := nI_clamp (by omega)
      obtain ⟨m1, hm1, e1⟩ := hsz k (by omega)
      obtain ⟨m2, hm2, e2⟩ := hsz q (by omega)
      refine lv_aload_n hx hb dX7_copy_17 rfl (lv_at hl 0 rfl) ?_
      refine s_get (v := .ref (ad 24)) fb7 cf hw 0 rfl 24 rfl q945 (hf.2 24 rfl) dX7_copy_18 ?_
      refine lv_iload_n hx hb dX7_copy_21 rfl (lv_at hl 1 rfl) ?_
      refine s_iald (j := k) cf hw 1 rfl (rfl) (by omega) rfl dX7_copy_22 ?_
      refine lv_if_lt (tgt := 35) hx hb dX7_copy_23 (by decide) (fun c23 => ?_) (fun c23 => ?_)
      · refine lv_ldc hx hb hown (hts _ q1247) dX7_copy_35 ?_
        exact s_iret cf hr hlk (ca, ar) (by rw [show D_copy so sz nu (nI k) p_ (nI q) r_ m_ = nu from if_neg (by unfold okCopy; rw [hclk, hclq]; grind), show D_copy so sz isn (nI k) p_ (nI q) r_ m_ = isn from if_neg (by unfold okCopy; rw [hclk, hclq]; grind)]; exact hw) (by unfold R_copy; rw [if_pos ⟨c4, c11⟩, hclk, hclq, if_pos (by grind)]) (Nat.le_of_ble_eq_true rfl) (Nat.le_of_ble_eq_true rfl) dX7_copy_37 hQ
      · refine lv_aload_n hx hb dX7_copy_26 rfl (lv_at hl 0 rfl) ?_
        refine s_get (v := .ref (ad 24)) fb7 cf hw 0 rfl 24 rfl q945 (hf.2 24 rfl) dX7_copy_27 ?_
        refine lv_iload_n hx hb dX7_copy_30 rfl (lv_at hl 3 rfl) ?_
        refine s_iald (j := q) cf hw 1 rfl (rfl) (by omega) rfl dX7_copy_31 ?_
        refine lv_if_ge (tgt := 38) hx hb dX7_copy_32 (by decide) (fun c32 => ?_) (fun c32 => ?_)
        · refine lv_aload_n hx hb dX7_copy_38 rfl (lv_at hl 0 rfl) ?_
          refine s_get (v := .ref (ad 24)) fb7 cf hw 0 rfl 24 rfl q945 (hf.2 24 rfl) dX7_copy_39 ?_
          refine lv_iload_n hx hb dX7_copy_42 rfl (lv_at hl 1 rfl) ?_
          refine s_iald (j := k) cf hw 1 rfl (rfl) (by omega) rfl dX7_copy_43 ?_
          refine lv_aload_n hx hb dX7_copy_44 rfl (lv_at hl 0 rfl) ?_
          refine s_get (v := .ref (ad 24)) fb7 cf hw 0 rfl 24 rfl q945 (hf.2 24 rfl) dX7_copy_45 ?_
          refine lv_iload_n hx hb dX7_copy_48 rfl (lv_at hl 3 rfl) ?_
          refine s_iald (j := q) cf hw 1 rfl (rfl) (by omega) rfl dX7_copy_49 ?_
          refine lv_icmp_eq (tgt := 56) hx hb dX7_copy_50 (by decide) (fun c50 => ?_) (fun c50 => ?_)
          · refine lv_iload_n hx hb dX7_copy_56 rfl (lv_at hl 2 rfl) ?_
            refine lv_if_lt (tgt := 105) hx hb dX7_copy_57 (by decide) (fun c57 => ?_) (fun c57 => ?_)
            · refine lv_ldcw hx hb hown (hts _ q1342) dX7_copy_105 ?_
              exact s_iret cf hr hlk (ca, ar) (by rw [show D_copy so sz nu (nI k) p_ (nI q) r_ m_ = nu from if_neg (by unfold okCopy; rw [hclk, hclq]; exact fun z => (fun (z : okIx p_ m_ (sz k) ∧ okIx r_ m_ (sz q)) => z.1.1 c57) ⟨z.2.2.2.1, z.2.2.2.2⟩), show D_copy so sz isn (nI k) p_ (nI q) r_ m_ = isn from if_neg (by unfold okCopy; rw [hclk, hclq]; exact fun z => (fun (z : okIx p_ m_ (sz k) ∧ okIx r_ m_ (sz q)) => z.1.1 c57) ⟨z.2.2.2.1, z.2.2.2.2⟩)]; exact hw) (by unfold R_copy; rw [if_pos ⟨c4, c11⟩, hclk, hclq, if_neg (by grind), if_pos c50, if_neg (fun (z : okIx p_ m_ (sz k) ∧ okIx r_ m_ (sz q)) => z.1.1 c57)]) (Nat.le_of_ble_eq_true rfl) (Nat.le_of_ble_eq_true rfl) dX7_copy_108 hQ
            · refine lv_iload hx hb dX7_copy_60 (lv_at hl 4 rfl) ?_
              refine lv_if_lt (tgt := 105) hx hb dX7_copy_62 (by decide) (fun c62 => ?_) (fun c62 => ?_)
              · refine lv_ldcw hx hb hown (hts _ q1342) dX7_copy_105 ?_
                exact s_iret cf hr hlk (ca, ar) (by rw [show D_copy so sz nu (nI k) p_ (nI q) r_ m_ = nu from if_neg (by unfold okCopy; rw [hclk, hclq]; exact fun z => (fun (z : okIx p_ m_ (sz k) ∧ okIx r_ m_ (sz q)) => z.2.1 c62) ⟨z.2.2.2.1, z.2.2.2.2⟩), show D_copy so sz isn (nI k) p_ (nI q) r_ m_ = isn from if_neg (by unfold okCopy; rw [hclk, hclq]; exact fun z => (fun (z : okIx p_ m_ (sz k) ∧ okIx r_ m_ (sz q)) => z.2.1 c62) ⟨z.2.2.2.1, z.2.2.2.2⟩)]; exact hw) (by unfold R_copy; rw [if_pos ⟨c4, c11⟩, hclk, hclq, if_neg (by grind), if_pos c50, if_neg (fun (z : okIx p_ m_ (sz k) ∧ okIx r_ m_ (sz q)) => z.2.1 c62)]) (Nat.le_of_ble_eq_true rfl) (Nat.le_of_ble_eq_true rfl) dX7_copy_108 hQ
              · refine lv_iload hx hb dX7_copy_65 (lv_at hl 5 rfl) ?_
                refine lv_if_lt (tgt := 105) hx hb dX7_copy_67 (by decide) (fun c67 => ?_) (fun c67 => ?_)
                · refine lv_ldcw hx hb hown (hts _ q1342) dX7_copy_105 ?_
                  exact s_iret cf hr hlk (ca, ar) (by rw [show D_copy so sz nu (nI k) p_ (nI q) r_ m_ = nu from if_neg (by unfold okCopy; rw [hclk, hclq]; exact fun z => (fun (z : okIx p_ m_ (sz k) ∧ okIx r_ m_ (sz q)) => z.1.2.1 c67) ⟨z.2.2.2.1, z.2.2.2.2⟩), show D_copy so sz isn (nI k) p_ (nI q) r_ m_ = isn from if_neg (by unfold okCopy; rw [hclk, hclq]; exact fun z => (fun (z : okIx p_ m_ (sz k) ∧ okIx r_ m_ (sz q)) => z.1.2.1 c67) ⟨z.2.2.2.1, z.2.2.2.2⟩)]; exact hw) (by unfold R_copy; rw [if_pos ⟨c4, c11⟩, hclk, hclq, if_neg (by grind), if_pos c50, if_neg (fun (z : okIx p_ m_ (sz k) ∧ okIx r_ m_ (sz q)) => z.1.2.1 c67)]) (Nat.le_of_ble_eq_true rfl) (Nat.le_of_ble_eq_true rfl) dX7_copy_108 hQ
                · refine lv_iload_n hx hb dX7_copy_70 rfl (lv_at hl 2 rfl) ?_
                  refine lv_i2l (v := (p_ : Int32).toInt64) hx hb dX7_copy_71 rfl ?_
                  refine lv_iload hx hb dX7_copy_72 (lv_at hl 5 rfl) ?_
                  refine lv_i2l (v := (m_ : Int32).toInt64) hx hb dX7_copy_74 rfl ?_
                  refine lv_ladd hx hb dX7_copy_75 ?_
                  refine lv_aload_n hx hb dX7_copy_76 rfl (lv_at hl 0 rfl) ?_
                  refine s_get (v := .ref (ad 25)) fb7 cf hw 0 rfl 25 rfl q946 (hf.2 25 rfl) dX7_copy_77 ?_
                  refine lv_iload_n hx hb dX7_copy_80 rfl (lv_at hl 1 rfl) ?_
                  refine s_iald (j := k) cf hw 2 rfl (rfl) (by omega) rfl dX7_copy_81 ?_
                  refine lv_i2l (v := (sz k : Int32).toInt64) hx hb dX7_copy_82 rfl ?_
                  refine W.lcmp hx hb dX7_copy_83 ?_
                  refine lv_if_gt (tgt := 105) hx hb dX7_copy_84 (by decide) (fun c84 => ?_) (fun c84 => ?_)
                  · refine lv_ldcw hx hb hown (hts _ q1342) dX7_copy_105 ?_
                    exact s_iret cf hr hlk (ca, ar) (by rw [show D_copy so sz nu (nI k) p_ (nI q) r_ m_ = nu from if_neg (by unfold okCopy; rw [hclk, hclq]; exact fun z => (fun (z : okIx p_ m_ (sz k) ∧ okIx r_ m_ (sz q)) => (ix_long e1 hm1 c57 c67).mp c84 z.1.2.2) ⟨z.2.2.2.1, z.2.2.2.2⟩), show D_copy so sz isn (nI k) p_ (nI q) r_ m_ = isn from if_neg (by unfold okCopy; rw [hclk, hclq]; exact fun z => (fun (z : okIx p_ m_ (sz k) ∧ okIx r_ m_ (sz q)) => (ix_long e1 hm1 c57 c67).mp c84 z.1.2.2) ⟨z.2.2.2.1, z.2.2.2.2⟩)]; exact hw) (by unfold R_copy; rw [if_pos ⟨c4, c11⟩, hclk, hclq, if_neg (by grind), if_pos c50, if_neg (fun (z : okIx p_ m_ (sz k) ∧ okIx r_ m_ (sz q)) => (ix_long e1 hm1 c57 c67).mp c84 z.1.2.2)]) (Nat.le_of_ble_eq_true rfl) (Nat.le_of_ble_eq_true rfl) dX7_copy_108 hQ
                  · refine lv_iload hx hb dX7_copy_87 (lv_at hl 4 rfl) ?_
                    refine lv_i2l (v := (r_ : Int32).toInt64) hx hb dX7_copy_89 rfl ?_
                    refine lv_iload hx hb dX7_copy_90 (lv_at hl 5 rfl) ?_
                    refine lv_i2l (v := (m_ : Int32).toInt64) hx hb dX7_copy_92 rfl ?_
                    refine lv_ladd hx hb dX7_copy_93 ?_
                    refine lv_aload_n hx hb dX7_copy_94 rfl (lv_at hl 0 rfl) ?_
                    refine s_get (v := .ref (ad 25)) fb7 cf hw 0 rfl 25 rfl q946 (hf.2 25 rfl) dX7_copy_95 ?_
                    refine lv_iload_n hx hb dX7_copy_98 rfl (lv_at hl 3 rfl) ?_
                    refine s_iald (j := q) cf hw 2 rfl (rfl) (by omega) rfl dX7_copy_99 ?_
                    refine lv_i2l (v := (sz q : Int32).toInt64) hx hb dX7_copy_100 rfl ?_
                    refine W.lcmp hx hb dX7_copy_101 ?_
                    refine lv_if_le (tgt := 109) hx hb dX7_copy_102 (by decide) (fun c102 => ?_) (fun c102 => ?_)
                    · have hix : okIx p_ m_ (sz k) ∧ okIx r_ m_ (sz q) := ⟨⟨c57, c67, Decidable.byContradiction fun z => c84 ((ix_long e1 hm1 c57 c67).mpr z)⟩, c62, c67, Decidable.byContradiction fun z => absurd ((ix_long e2 hm2 c62 c67).mpr z) (Int32.not_lt.mpr c102)⟩
                      have hok : okCopy so sz (nI k) p_ (nI q) r_ m_ := ⟨⟨c4, c11⟩, by rw [hclk, hclq]; grind, by rw [hclk, hclq]; exact c50, by rw [hclk]; exact hix.1, by rw [hclq]; exact hix.2⟩
                      obtain ⟨pn, mn, hpm, ep, em⟩ := okIx_nat e1 hm1 hix.1
                      obtain ⟨rn, mn2, hrm, er, em2⟩ := okIx_nat e2 hm2 hix.2
                      subst ep
                      subst em
                      subst er
                      have hmm : mn = mn2 := (nI_eq (by omega) (by omega)).mp em2
                      refine lv_iconst (v := 0) hx hb dX7_copy_109 (by decide) ?_
                      refine lv_istore (lv' := [(6, .int 0), (0, .ref a), (1, .int (nI k)), (2, .int (nI pn)), (3, .int (nI q)), (4, .int (nI rn)), (5, .int (nI mn))]) hx hb dX7_copy_110 hl (by decide) rfl (fun ls hl => ?_)
                      have L112 : ∀ (fu : Nat) (i : Nat) (ca ar : DD), (i ≤ mn) → (mn < i + fu) → (∀ j, j < i → ca j = nu (24 * k + pn + j)) → (∀ j, j < i → ar j = isn (24 * k + pn + j)) → ∀ (H : Heap) (locs : List Loc) (ls : Array Slot), WD g A s H locs [bO a 7 fs, bI g (ad 24) 4 so, bI g (ad 25) 4 sz, bI g (ad 26) 96 nu, bZ g (ad 27) 96 isn, bI g (ad 29) 24 ca, bZ g (ad 30) 24 ar] → lv_has ls 7 [(0, .ref a), (1, .int (nI k)), (2, .int (nI pn)), (3, .int (nI q)), (4, .int (nI rn)), (5, .int (nI mn)), (6, .int (nI i))] → W p l e (rmx 2 0 0) s m args below meth c H locs 0 0 Qf (F0 m 112 ls []) := by
                        intro fu
                        induction fu with
                        | zero => intro i ca ar hi hfu hca har; exfalso; omega
                        | succ fu ih112 =>
                          intro i ca ar hi hfu hca har H locs ls hw hl
                          refine lv_iload hx hb dX7_copy_112 (lv_at hl 6 rfl) ?_
                          refine lv_iload hx hb dX7_copy_114 (lv_at hl 5 rfl) ?_
                          refine lv_icmp_ge (tgt := 167) hx hb dX7_copy_116 (by decide) (fun c116 => ?_) (fun c116 => ?_)
                          · have hi2 : i = mn := by have := nI_le_of (by omega) c116 (by omega); omega
                            rw [hi2] at hca har
                            refine lv_iconst (v := 0) hx hb dX7_copy_167 (by decide) ?_
                            refine lv_istore (lv' := [(6, .int 0), (0, .ref a), (1, .int (nI k)), (2, .int (nI pn)), (3, .int (nI q)), (4, .int (nI rn)), (5, .int (nI mn))]) hx hb dX7_copy_168 hl (by decide) rfl (fun ls hl => ?_)
                            have L170 : ∀ (fu : Nat) (i : Nat), (i ≤ mn) → (mn < i + fu) → ∀ (H : Heap) (locs : List Loc) (ls : Array Slot), WD g A s H locs [bO a 7 fs, bI g (ad 24) 4 so, bI g (ad 25) 4 sz, bI g (ad 26) 96 (cpyF nu (24 * k + pn) (24 * q + rn) i), bZ g (ad 27) 96 (cpyF isn (24 * k + pn) (24 * q + rn) i), bI g (ad 29) 24 ca, bZ g (ad 30) 24 ar] → lv_has ls 7 [(0, .ref a), (1, .int (nI k)), (2, .int (nI pn)), (3, .int (nI q)), (4, .int (nI rn)), (5, .int (nI mn)), (6, .int (nI i))] → W p l e (rmx 2 0 0) s m args below meth c H locs 0 0 Qf (F0 m 170 ls []) := by
                              intro fu
                              induction fu with
                              | zero => intro i hi hfu2; exfalso; omega
                              | succ fu ih170 =>
                                intro i hi hfu2 H locs ls hw hl
                                refine lv_iload hx hb dX7_copy_170 (lv_at hl 6 rfl) ?_
                                refine lv_iload hx hb dX7_copy_172 (lv_at hl 5 rfl) ?_
                                refine lv_icmp_ge (tgt := 227) hx hb dX7_copy_174 (by decide) (fun c174 => ?_) (fun c174 => ?_)
                                · have hi2 : mn = i := by have := nI_le_of (by omega) c174 (by omega); omega
                                  refine lv_iload hx hb dX7_copy_227 (lv_at hl 5 rfl) ?_
                                  exact s_iret cf hr hlk (ca, ar) (by rw [show D_copy so sz nu (nI k) (nI pn) (nI q) (nI rn) (nI mn) = cpyF nu (24 * k + pn) (24 * q + rn) i from (if_pos hok).trans (by rw [hclk, hclq, nI_clamp (by omega), nI_clamp (by omega), nI_clamp (by omega), hi2]), show D_copy so sz isn (nI k) (nI pn) (nI q) (nI rn) (nI mn) = cpyF isn (24 * k + pn) (24 * q + rn) i from (if_pos hok).trans (by rw [hclk, hclq, nI_clamp (by omega), nI_clamp (by omega), nI_clamp (by omega), hi2])]; exact hw) (by unfold R_copy; rw [if_pos ⟨c4, c11⟩, hclk, hclq, if_neg (by grind), if_pos c50, if_pos hix]) (Nat.le_of_ble_eq_true rfl) (Nat.le_of_ble_eq_true rfl) dX7_copy_229 hQ
                                · have hlt : i < mn := nI_lt_of (by omega) c174 (by omega)
                                  refine lv_aload_n hx hb dX7_copy_177 rfl (lv_at hl 0 rfl) ?_
                                  refine s_get (v := .ref (ad 26)) fb7 cf hw 0 rfl 26 rfl q947 (hf.2 26 rfl) dX7_copy_178 ?_
                                  refine lv_bipush (v := 24) hx hb dX7_copy_181 (by decide) ?_
                                  refine lv_iload_n hx hb dX7_copy_183 rfl (lv_at hl 3 rfl) ?_
                                  refine lv_imul hx hb dX7_copy_184 ?_
                                  refine lv_iload hx hb dX7_copy_185 (lv_at hl 4 rfl) ?_
                                  refine lv_iadd hx hb dX7_copy_187 ?_
                                  refine lv_iload hx hb dX7_copy_188 (lv_at hl 6 rfl) ?_
                                  refine lv_iadd hx hb dX7_copy_190 ?_
                                  refine lv_aload_n hx hb dX7_copy_191 rfl (lv_at hl 0 rfl) ?_
                                  refine s_get (v := .ref (ad 29)) fb7 cf hw 0 rfl 29 rfl q950 (hf.2 29 rfl) dX7_copy_192 ?_
                                  refine lv_iload hx hb dX7_copy_195 (lv_at hl 6 rfl) ?_
                                  refine s_iald (j := i) cf hw 5 rfl (rfl) (by omega) rfl dX7_copy_197 ?_
                                  refine lv_topr (y := nu (24 * k + pn + i)) (hca i hlt) ?_
                                  refine s_iast (j := (24 * q + rn + i)) cf hw 3 rfl (ix24b q rn i) (by omega) rfl dX7_copy_198 (fun H locs hw => ?_)
                                  have hw : WD g A s H locs [bO a 7 fs, bI g (ad 24) 4 so, bI g (ad 25) 4 sz, bI g (ad 26) 96 (upd (cpyF nu (24 * k + pn) (24 * q + rn) i) (24 * q + rn + i) (nu (24 * k + pn + i))), bZ g (ad 27) 96 (cpyF isn (24 * k + pn) (24 * q + rn) i), bI g (ad 29) 24 ca, bZ g (ad 30) 24 ar] := hw
                                  refine lv_aload_n hx hb dX7_copy_199 rfl (lv_at hl 0 rfl) ?_
                                  refine s_get (v := .ref (ad 27)) fb7 cf hw 0 rfl 27 rfl q948 (hf.2 27 rfl) dX7_copy_200 ?_
                                  refine lv_bipush (v := 24) hx hb dX7_copy_203 (by decide) ?_
                                  refine lv_iload_n hx hb dX7_copy_205 rfl (lv_at hl 3 rfl) ?_
                                  refine lv_imul hx hb dX7_copy_206 ?_
                                  refine lv_iload hx hb dX7_copy_207 (lv_at hl 4 rfl) ?_
                                  refine lv_iadd hx hb dX7_copy_209 ?_
                                  refine lv_iload hx hb dX7_copy_210 (lv_at hl 6 rfl) ?_
                                  refine lv_iadd hx hb dX7_copy_212 ?_
                                  refine lv_aload_n hx hb dX7_copy_213 rfl (lv_at hl 0 rfl) ?_
                                  refine s_get (v := .ref (ad 30)) fb7 cf hw 0 rfl 30 rfl q951 (hf.2 30 rfl) dX7_copy_214 ?_
                                  refine lv_iload hx hb dX7_copy_217 (lv_at hl 6 rfl) ?_
                                  refine s_zald (j := i) cf hw 6 rfl (rfl) (by omega) rfl dX7_copy_219 ?_
                                  refine lv_topr (y := isn (24 * k + pn + i)) (har i hlt) ?_
                                  refine s_zast (j := (24 * q + rn + i)) cf hw 4 rfl (ix24b q rn i) (by omega) rfl (by rcases hb01 (24 * k + pn + i) with z | z <;> rw [z] <;> rfl) dX7_copy_220 (fun H locs hw => ?_)
                                  have hw : WD g A s H locs [bO a 7 fs, bI g (ad 24) 4 so, bI g (ad 25) 4 sz, bI g (ad 26) 96 (upd (cpyF nu (24 * k + pn) (24 * q + rn) i) (24 * q + rn + i) (nu (24 * k + pn + i))), bZ g (ad 27) 96 (upd (cpyF isn (24 * k + pn) (24 * q + rn) i) (24 * q + rn + i) (isn (24 * k + pn + i))), bI g (ad 29) 24 ca, bZ g (ad 30) 24 ar] := hw
                                  refine lv_iinc (v := nI (i + 1)) (lv' := [(6, .int (nI (i + 1))), (0, .ref a), (1, .int (nI k)), (2, .int (nI pn)), (3, .int (nI q)), (4, .int (nI rn)), (5, .int (nI mn))]) hx hb dX7_copy_221 hl (k := 6) rfl (nI_1 i) (by decide) rfl (fun ls hl => ?_)
                                  refine lv_goto (tgt := 170) hx hb dX7_copy_224 (by decide) ?_
                                  exact ih170 (i + 1) (by omega) (by omega) _ _ _ hw (lv_sub hl [1, 2, 3, 4, 5, 6, 0] rfl)
                            exact L170 (mn + 1) 0 (by omega) (by omega) _ _ _ hw (lv_sub hl [1, 2, 3, 4, 5, 6, 0] rfl)
                          · have hlt : i < mn := nI_lt_of (by omega) c116 (by omega)
                            refine lv_aload_n hx hb dX7_copy_119 rfl (lv_at hl 0 rfl) ?_
                            refine s_get (v := .ref (ad 29)) fb7 cf hw 0 rfl 29 rfl q950 (hf.2 29 rfl) dX7_copy_120 ?_
                            refine lv_iload hx hb dX7_copy_123 (lv_at hl 6 rfl) ?_
                            refine lv_aload_n hx hb dX7_copy_125 rfl (lv_at hl 0 rfl) ?_
                            refine s_get (v := .ref (ad 26)) fb7 cf hw 0 rfl 26 rfl q947 (hf.2 26 rfl) dX7_copy_126 ?_
                            refine lv_bipush (v := 24) hx hb dX7_copy_129 (by decide) ?_
                            refine lv_iload_n hx hb dX7_copy_131 rfl (lv_at hl 1 rfl) ?_
                            refine lv_imul hx hb dX7_copy_132 ?_
                            refine lv_iload_n hx hb dX7_copy_133 rfl (lv_at hl 2 rfl) ?_
                            refine lv_iadd hx hb dX7_copy_134 ?_
                            refine lv_iload hx hb dX7_copy_135 (lv_at hl 6 rfl) ?_
                            refine lv_iadd hx hb dX7_copy_137 ?_
                            refine s_iald (j := (24 * k + pn + i)) cf hw 3 rfl (ix24b k pn i) (by omega) rfl dX7_copy_138 ?_
                            refine s_iast (j := i) cf hw 5 rfl (rfl) (by omega) rfl dX7_copy_139 (fun H locs hw => ?_)
                            have hw : WD g A s H locs [bO a 7 fs, bI g (ad 24) 4 so, bI g (ad 25) 4 sz, bI g (ad 26) 96 nu, bZ g (ad 27) 96 isn, bI g (ad 29) 24 (upd ca i (nu (24 * k + pn + i))), bZ g (ad 30) 24 ar] := hw
                            refine lv_aload_n hx hb dX7_copy_140 rfl (lv_at hl 0 rfl) ?_
                            refine s_get (v := .ref (ad 30)) fb7 cf hw 0 rfl 30 rfl q951 (hf.2 30 rfl) dX7_copy_141 ?_
                            refine lv_iload hx hb dX7_copy_144 (lv_at hl 6 rfl) ?_
                            refine lv_aload_n hx hb dX7_copy_146 rfl (lv_at hl 0 rfl) ?_
                            refine s_get (v := .ref (ad 27)) fb7 cf hw 0 rfl 27 rfl q948 (hf.2 27 rfl) dX7_copy_147 ?_
                            refine lv_bipush (v := 24) hx hb dX7_copy_150 (by decide) ?_
                            refine lv_iload_n hx hb dX7_copy_152 rfl (lv_at hl 1 rfl) ?_
                            refine lv_imul hx hb dX7_copy_153 ?_
                            refine lv_iload_n hx hb dX7_copy_154 rfl (lv_at hl 2 rfl) ?_
                            refine lv_iadd hx hb dX7_copy_155 ?_
                            refine lv_iload hx hb dX7_copy_156 (lv_at hl 6 rfl) ?_
                            refine lv_iadd hx hb dX7_copy_158 ?_
                            refine s_zald (j := (24 * k + pn + i)) cf hw 4 rfl (ix24b k pn i) (by omega) rfl dX7_copy_159 ?_
                            refine s_zast (j := i) cf hw 6 rfl (rfl) (by omega) rfl (by rcases hb01 (24 * k + pn + i) with z | z <;> rw [z] <;> rfl) dX7_copy_160 (fun H locs hw => ?_)
                            have hw : WD g A s H locs [bO a 7 fs, bI g (ad 24) 4 so, bI g (ad 25) 4 sz, bI g (ad 26) 96 nu, bZ g (ad 27) 96 isn, bI g (ad 29) 24 (upd ca i (nu (24 * k + pn + i))), bZ g (ad 30) 24 (upd ar i (isn (24 * k + pn + i)))] := hw
                            refine lv_iinc (v := nI (i + 1)) (lv' := [(6, .int (nI (i + 1))), (0, .ref a), (1, .int (nI k)), (2, .int (nI pn)), (3, .int (nI q)), (4, .int (nI rn)), (5, .int (nI mn))]) hx hb dX7_copy_161 hl (k := 6) rfl (nI_1 i) (by decide) rfl (fun ls hl => ?_)
                            refine lv_goto (tgt := 112) hx hb dX7_copy_164 (by decide) ?_
                            exact ih112 (i + 1) (upd ca i (nu (24 * k + pn + i))) (upd ar i (isn (24 * k + pn + i))) (by omega) (by omega) (upd_step (F := fun j => nu (24 * k + pn + j)) hca) (upd_step (F := fun j => isn (24 * k + pn + j)) har) _ _ _ hw (lv_sub hl [1, 2, 3, 4, 5, 6, 0] rfl)
                      exact L112 (mn + 1) 0 ca ar (by omega) (by omega) (fun j z => absurd z (by omega)) (fun j z => absurd z (by omega)) _ _ _ hw (lv_sub hl [1, 2, 3, 4, 5, 6, 0] rfl)
                    · refine lv_ldcw hx hb hown (hts _ q1342) dX7_copy_105 ?_
                      exact s_iret cf hr hlk (ca, ar) (by rw [show D_copy so sz nu (nI k) p_ (nI q) r_ m_ = nu from if_neg (by unfold okCopy; rw [hclk, hclq]; exact fun z => (fun (z : okIx p_ m_ (sz k) ∧ okIx r_ m_ (sz q)) => (ix_long e2 hm2 c62 c67).mp (Int32.not_le.mp c102) z.2.2.2) ⟨z.2.2.2.1, z.2.2.2.2⟩), show D_copy so sz isn (nI k) p_ (nI q) r_ m_ = isn from if_neg (by unfold okCopy; rw [hclk, hclq]; exact fun z => (fun (z : okIx p_ m_ (sz k) ∧ okIx r_ m_ (sz q)) => (ix_long e2 hm2 c62 c67).mp (Int32.not_le.mp c102) z.2.2.2) ⟨z.2.2.2.1, z.2.2.2.2⟩)]; exact hw) (by unfold R_copy; rw [if_pos ⟨c4, c11⟩, hclk, hclq, if_neg (by grind), if_pos c50, if_neg (fun (z : okIx p_ m_ (sz k) ∧ okIx r_ m_ (sz q)) => (ix_long e2 hm2 c62 c67).mp (Int32.not_le.mp c102) z.2.2.2)]) (Nat.le_of_ble_eq_true rfl) (Nat.le_of_ble_eq_true rfl) dX7_copy_108 hQ
          · refine lv_ldc hx hb hown (hts _ q1117) dX7_copy_53 ?_
            exact s_iret cf hr hlk (ca, ar) (by rw [show D_copy so sz nu (nI k) p_ (nI q) r_ m_ = nu from if_neg (by unfold okCopy; rw [hclk, hclq]; grind), show D_copy so sz isn (nI k) p_ (nI q) r_ m_ = isn from if_neg (by unfold okCopy; rw [hclk, hclq]; grind)]; exact hw) (by unfold R_copy; rw [if_pos ⟨c4, c11⟩, hclk, hclq, if_neg (by grind), if_neg c50]) (Nat.le_of_ble_eq_true rfl) (Nat.le_of_ble_eq_true rfl) dX7_copy_55 hQ
        · refine lv_ldc hx hb hown (hts _ q1247) dX7_copy_35 ?_
          exact s_iret cf hr hlk (ca, ar) (by rw [show D_copy so sz nu (nI k) p_ (nI q) r_ m_ = nu from if_neg (by unfold okCopy; rw [hclk, hclq]; grind), show D_copy so sz isn (nI k) p_ (nI q) r_ m_ = isn from if_neg (by unfold okCopy; rw [hclk, hclq]; grind)]; exact hw) (by unfold R_copy; rw [if_pos ⟨c4, c11⟩, hclk, hclq, if_pos (by grind)]) (Nat.le_of_ble_eq_true rfl) (Nat.le_of_ble_eq_true rfl) dX7_copy_37 hQ
    · have c11 := b01_z c11
      refine lv_ldc hx hb hown (hts _ q1049) dX7_copy_14 ?_
      exact s_iret cf hr hlk (ca, ar) (by rw [show D_copy so sz nu x p_ y r_ m_ = nu from if_neg (by grind), show D_copy so sz isn x p_ y r_ m_ = isn from if_neg (by grind)]; exact hw) (by unfold R_copy; rw [if_neg (by grind)]) (Nat.le_of_ble_eq_true rfl) (Nat.le_of_ble_eq_true rfl) dX7_copy_16 hQ
