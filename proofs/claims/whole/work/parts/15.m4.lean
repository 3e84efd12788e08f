set_option maxRecDepth 100000 in
set_option maxHeartbeats 4000000 in
theorem m_roundGoes {l : Launch} {g : GG} {a : Nat} {ad : Nat → Nat} {fs : List Value} (hf : MF ad fs) {d cdf kf sf pl : DD} {ft : TXC} (hT : TxOK d kf sf cdf 0 ft) {n : Nat} (hn : d 0 = nI n) (hn10 : n ≤ 10) : Ct l g yX7_roundGoes cX7_roundGoes 3 (Option.none : Option Jvm.ClassFile.FieldType) 4 0 0 [.ref a] [bO a 7 fs, bI g (ad 0) 60 d, bI g (ad 5) 1344 cdf, bI g (ad 6) 14 kf, bI g (ad 7) 14 sf, bI g (ad 9) 96 pl] (QV g (fun (_ : DD) => True) (fun u => [bO a 7 fs, bI g (ad 0) 60 (roundF ft d), bI g (ad 5) 1344 cdf, bI g (ad 6) 14 kf, bI g (ad 7) 14 sf, bI g (ad 9) 96 u])) := by
  refine Ct.of (by decide) rfl ?_
  intro p e s m args below meth c A H locs ls Qf cf hr hlk hnm hQ hw hl
  have hx := cf.1
  have hb := cf.2.1
  have hml := cf.2.2.1
  have hown := cf.2.2.2.1
  have hts := cf.2.2.2.2
  have hw : WD g A s H locs [bO a 7 fs, bI g (ad 0) 60 d, bI g (ad 5) 1344 cdf, bI g (ad 6) 14 kf, bI g (ad 7) 14 sf, bI g (ad 9) 96 pl] := hw
  have hl : lv_has ls 3 [(0, .ref a)] := hl
  refine lv_iconst (v := 0) hx hb dX7_roundGoes_0 (by decide) ?_
  refine lv_istore_n (lv' := [(1, .int 0), (0, .ref a)]) hx hb dX7_roundGoes_1 rfl hl (by decide) rfl (fun ls hl => ?_)
  refine lv_iconst (v := 0) hx hb dX7_roundGoes_2 (by decide) ?_
  refine lv_istore_n (lv' := [(2, .int 0), (1, .int 0), (0, .ref a)]) hx hb dX7_roundGoes_3 rfl hl (by decide) rfl (fun ls hl => ?_)
  have L4 : ∀ (fu : Nat) (i : Nat) (pl : DD), (i ≤ n) → (n < i + fu) → ∀ (H : Heap) (locs : List Loc) (ls : Array Slot), WD g A s H locs [bO a 7 fs, bI g (ad 0) 60 d, bI g (ad 5) 1344 cdf, bI g (ad 6) 14 kf, bI g (ad 7) 14 sf, bI g (ad 9) 96 pl] → lv_has ls 3 [(0, .ref a), (1, .int (itn (fun h st => st ||| (if d 2 ≤ slackF ft d h then (1 : Int32) <<< (nI h &&& 31) else 0)) i 0)), (2, .int (nI i))] → W p l e (rmx 4 0 0) s m args below meth c H locs 0 0 Qf (F0 m 4 ls []) := by
    intro fu
    induction fu with
    | zero => intro i pl hi hfu; exfalso; omega
    | succ fu ih4 =>
      intro i pl hi hfu H locs ls hw hl
      refine lv_iload_n hx hb dX7_roundGoes_4 rfl (lv_at hl 2 rfl) ?_
      refine lv_aload_n hx hb dX7_roundGoes_5 rfl (lv_at hl 0 rfl) ?_
      refine s_get (v := .ref (ad 0)) fb7 cf hw 0 rfl 0 rfl q921 (hf.2 0 rfl) dX7_roundGoes_6 ?_
      refine lv_iconst (v := 0) hx hb dX7_roundGoes_9 (by decide) ?_
      refine s_iald (j := 0) cf hw 1 rfl (rfl) (by decide) rfl dX7_roundGoes_10 ?_
      refine lv_icmp_ge (tgt := 44) hx hb dX7_roundGoes_11 (by decide) (fun c11 => ?_) (fun c11 => ?_)
      · have hi2 : n = i := by rw [hn] at c11; have := nI_le_of (by omega) c11 (by omega); omega
        have hi3 : itn (fun h st => st ||| (if d 2 ≤ slackF ft d h then (1 : Int32) <<< (nI h &&& 31) else 0)) i 0 = loudF ft d n := by rw [hi2]; rfl
        have hl : lv_has ls 3 [(0, .ref a), (1, .int (loudF ft d n)), (2, .int (nI i))] := by rw [← hi3]; exact hl
        refine lv_aload_n hx hb dX7_roundGoes_44 rfl (lv_at hl 0 rfl) ?_
        refine s_get (v := .ref (ad 0)) fb7 cf hw 0 rfl 0 rfl q921 (hf.2 0 rfl) dX7_roundGoes_45 ?_
        refine lv_iconst (v := 5) hx hb dX7_roundGoes_48 (by decide) ?_
        refine lv_iload_n hx hb dX7_roundGoes_49 rfl (lv_at hl 1 rfl) ?_
        refine s_iast (j := 5) cf hw 1 rfl (rfl) (by decide) rfl dX7_roundGoes_50 (fun H locs hw => ?_)
        have hw : WD g A s H locs [bO a 7 fs, bI g (ad 0) 60 (upd d 5 (loudF ft d n)), bI g (ad 5) 1344 cdf, bI g (ad 6) 14 kf, bI g (ad 7) 14 sf, bI g (ad 9) 96 pl] := hw
        refine lv_iconst (v := 0) hx hb dX7_roundGoes_51 (by decide) ?_
        refine lv_istore_n (lv' := [(2, .int 0), (0, .ref a), (1, .int (loudF ft d n))]) hx hb dX7_roundGoes_52 rfl hl (by decide) rfl (fun ls hl => ?_)
        have L53 : ∀ (fu : Nat) (i : Nat), (i ≤ n) → (n < i + fu) → ∀ (H : Heap) (locs : List Loc) (ls : Array Slot), WD g A s H locs [bO a 7 fs, bI g (ad 0) 60 (itn (heardF (loudF ft d n)) i (upd d 5 (loudF ft d n))), bI g (ad 5) 1344 cdf, bI g (ad 6) 14 kf, bI g (ad 7) 14 sf, bI g (ad 9) 96 pl] → lv_has ls 3 [(0, .ref a), (1, .int (loudF ft d n)), (2, .int (nI i))] → W p l e (rmx 4 0 0) s m args below meth c H locs 0 0 Qf (F0 m 53 ls []) := by
          intro fu
          induction fu with
          | zero => intro i hi hfu; exfalso; omega
          | succ fu ih53 =>
            intro i hi hfu H locs ls hw hl
            refine lv_iload_n hx hb dX7_roundGoes_53 rfl (lv_at hl 2 rfl) ?_
            refine lv_aload_n hx hb dX7_roundGoes_54 rfl (lv_at hl 0 rfl) ?_
            refine s_get (v := .ref (ad 0)) fb7 cf hw 0 rfl 0 rfl q921 (hf.2 0 rfl) dX7_roundGoes_55 ?_
            refine lv_iconst (v := 0) hx hb dX7_roundGoes_58 (by decide) ?_
            refine s_iald (j := 0) cf hw 1 rfl (rfl) (by decide) rfl dX7_roundGoes_59 ?_
            refine lv_icmp_ge (tgt := 94) hx hb dX7_roundGoes_60 (by decide) (fun c60 => ?_) (fun c60 => ?_)
            · have hi2 : n = i := by rw [heardF_lo (by omega), upd_ne (by omega), hn] at c60; have := nI_le_of (by omega) c60 (by omega); omega
              have hi3 : itn (heardF (loudF ft d n)) i (upd d 5 (loudF ft d n)) = itn (heardF (loudF ft d n)) n (upd d 5 (loudF ft d n)) := by rw [hi2]
              have hw : WD g A s H locs [bO a 7 fs, bI g (ad 0) 60 (itn (heardF (loudF ft d n)) n (upd d 5 (loudF ft d n))), bI g (ad 5) 1344 cdf, bI g (ad 6) 14 kf, bI g (ad 7) 14 sf, bI g (ad 9) 96 pl] := by rw [← hi3]; exact hw
              refine lv_aload_n hx hb dX7_roundGoes_94 rfl (lv_at hl 0 rfl) ?_
              refine s_get (v := .ref (ad 0)) fb7 cf hw 0 rfl 0 rfl q921 (hf.2 0 rfl) dX7_roundGoes_95 ?_
              refine lv_bipush (v := 6) hx hb dX7_roundGoes_98 (by decide) ?_
              refine lv_aload_n hx hb dX7_roundGoes_100 rfl (lv_at hl 0 rfl) ?_
              refine s_get (v := .ref (ad 0)) fb7 cf hw 0 rfl 0 rfl q921 (hf.2 0 rfl) dX7_roundGoes_101 ?_
              refine lv_bipush (v := 6) hx hb dX7_roundGoes_104 (by decide) ?_
              refine s_iald (j := 6) cf hw 1 rfl (rfl) (by decide) rfl dX7_roundGoes_106 ?_
              refine lv_iload_n hx hb dX7_roundGoes_107 rfl (lv_at hl 1 rfl) ?_
              refine s_calli (runS cf (m_ones (loudF ft d n)) hw [] (by decide) rfl km_X7_ones ks_X7_ones q1093 rfl rfl hl.1 rfl dX7_roundGoes_108) hw [] (by decide) rfl (fun _ => rfl) (fun r_3 u_1 H locs hp_2 hw => ?_)
              have hw : WD g A s H locs [bO a 7 fs, bI g (ad 0) 60 (itn (heardF (loudF ft d n)) n (upd d 5 (loudF ft d n))), bI g (ad 5) 1344 cdf, bI g (ad 6) 14 kf, bI g (ad 7) 14 sf, bI g (ad 9) 96 pl] := hw
              subst hp_2
              refine lv_iadd hx hb dX7_roundGoes_111 ?_
              refine lv_iconst (v := 0) hx hb dX7_roundGoes_112 (by decide) ?_
              refine lv_ldc hx hb hown (hts _ q1161) dX7_roundGoes_113 ?_
              refine s_calli (runS cf (m_held (((itn (heardF (loudF ft d n)) n (upd d 5 (loudF ft d n))) 6) + (onesF (loudF ft d n))) 0 99999) hw [] (by decide) rfl km_X7_held ks_X7_held q1090 rfl rfl hl.1 rfl dX7_roundGoes_115) hw [] (by decide) rfl (fun _ => rfl) (fun r_6 u_4 H locs hp_5 hw => ?_)
              have hw : WD g A s H locs [bO a 7 fs, bI g (ad 0) 60 (itn (heardF (loudF ft d n)) n (upd d 5 (loudF ft d n))), bI g (ad 5) 1344 cdf, bI g (ad 6) 14 kf, bI g (ad 7) 14 sf, bI g (ad 9) 96 pl] := hw
              subst hp_5
              refine s_iast (j := 6) cf hw 1 rfl (rfl) (by decide) rfl dX7_roundGoes_118 (fun H locs hw => ?_)
              have hw : WD g A s H locs [bO a 7 fs, bI g (ad 0) 60 (upd (itn (heardF (loudF ft d n)) n (upd d 5 (loudF ft d n))) 6 (held (((itn (heardF (loudF ft d n)) n (upd d 5 (loudF ft d n))) 6) + (onesF (loudF ft d n))) 0 99999)), bI g (ad 5) 1344 cdf, bI g (ad 6) 14 kf, bI g (ad 7) 14 sf, bI g (ad 9) 96 pl] := hw
              exact s_vret cf hr hlk pl (by rw [show roundF ft d = upd (itn (heardF (loudF ft d n)) n (upd d 5 (loudF ft d n))) 6 (held (((itn (heardF (loudF ft d n)) n (upd d 5 (loudF ft d n))) 6) + (onesF (loudF ft d n))) 0 99999) by unfold roundF; rw [nH_of hn hn10]]; exact hw) trivial (Nat.le_of_ble_eq_true rfl) (Nat.le_of_ble_eq_true rfl) dX7_roundGoes_119 hQ
            · have hlt : i < n := by rw [heardF_lo (by omega), upd_ne (by omega), hn] at c60; exact nI_lt_of (by omega) c60 (by omega)
              refine lv_aload_n hx hb dX7_roundGoes_63 rfl (lv_at hl 0 rfl) ?_
              refine lv_iload_n hx hb dX7_roundGoes_64 rfl (lv_at hl 2 rfl) ?_
              refine lv_iconst (v := 4) hx hb dX7_roundGoes_65 (by decide) ?_
              refine lv_aload_n hx hb dX7_roundGoes_66 rfl (lv_at hl 0 rfl) ?_
              refine lv_iload_n hx hb dX7_roundGoes_67 rfl (lv_at hl 2 rfl) ?_
              refine lv_iconst (v := 4) hx hb dX7_roundGoes_68 (by decide) ?_
              refine s_calli (runV cf (m_of (d := itn (heardF (loudF ft d n)) i (upd d 5 (loudF ft d n))) hf i 4 (by omega)) hw [0, 1] (by decide) rfl km_X7_of ki_X7_of q1076 (run_recv (ci := 7) (T := TX7) (N := 39) hw 0 rfl rfl) rfl rfl hl.1 rfl dX7_roundGoes_69) hw [0, 1] (by decide) rfl (fun _ => rfl) (fun r_9 u_7 H locs hp_8 hw => ?_)
              have hw : WD g A s H locs [bO a 7 fs, bI g (ad 0) 60 (itn (heardF (loudF ft d n)) i (upd d 5 (loudF ft d n))), bI g (ad 5) 1344 cdf, bI g (ad 6) 14 kf, bI g (ad 7) 14 sf, bI g (ad 9) 96 pl] := hw
              subst hp_8
              refine lv_iload_n hx hb dX7_roundGoes_72 rfl (lv_at hl 1 rfl) ?_
              refine lv_iload_n hx hb dX7_roundGoes_73 rfl (lv_at hl 2 rfl) ?_
              refine lv_ishr hx hb dX7_roundGoes_74 ?_
              refine lv_iconst (v := 1) hx hb dX7_roundGoes_75 (by decide) ?_
              refine lv_iand hx hb dX7_roundGoes_76 ?_
              refine lv_iadd hx hb dX7_roundGoes_77 ?_
              refine lv_iconst (v := 0) hx hb dX7_roundGoes_78 (by decide) ?_
              refine lv_sipush (v := 9999) hx hb dX7_roundGoes_79 (by decide) ?_
              refine s_calli (runS cf (m_held (((itn (heardF (loudF ft d n)) i (upd d 5 (loudF ft d n))) (10 + 5 * i + 4)) + (((loudF ft d n) >>> ((nI i) &&& 31)) &&& 1)) 0 9999) hw [] (by decide) rfl km_X7_held ks_X7_held q1090 rfl rfl hl.1 rfl dX7_roundGoes_82) hw [] (by decide) rfl (fun _ => rfl) (fun r_12 u_10 H locs hp_11 hw => ?_)
              have hw : WD g A s H locs [bO a 7 fs, bI g (ad 0) 60 (itn (heardF (loudF ft d n)) i (upd d 5 (loudF ft d n))), bI g (ad 5) 1344 cdf, bI g (ad 6) 14 kf, bI g (ad 7) 14 sf, bI g (ad 9) 96 pl] := hw
              subst hp_11
              refine s_callv (runV cf (m_sets (d := itn (heardF (loudF ft d n)) i (upd d 5 (loudF ft d n))) hf i 4 (held (((itn (heardF (loudF ft d n)) i (upd d 5 (loudF ft d n))) (10 + 5 * i + 4)) + (((loudF ft d n) >>> ((nI i) &&& 31)) &&& 1)) 0 9999) (by omega)) hw [0, 1] (by decide) rfl km_X7_sets ki_X7_sets q1051 (run_recv (ci := 7) (T := TX7) (N := 39) hw 0 rfl rfl) rfl rfl hl.1 rfl dX7_roundGoes_85) hw [0, 1] (by decide) rfl (fun _ => rfl) (fun u_13 H locs hp_14 hw => ?_)
              have hw : WD g A s H locs [bO a 7 fs, bI g (ad 0) 60 (upd (itn (heardF (loudF ft d n)) i (upd d 5 (loudF ft d n))) (10 + 5 * i + 4) (held (((itn (heardF (loudF ft d n)) i (upd d 5 (loudF ft d n))) (10 + 5 * i + 4)) + (((loudF ft d n) >>> ((nI i) &&& 31)) &&& 1)) 0 9999)), bI g (ad 5) 1344 cdf, bI g (ad 6) 14 kf, bI g (ad 7) 14 sf, bI g (ad 9) 96 pl] := hw
              refine lv_iinc (v := nI (i + 1)) (lv' := [(2, .int (nI (i + 1))), (0, .ref a), (1, .int (loudF ft d n))]) hx hb dX7_roundGoes_88 hl (k := 2) rfl (nI_1 i) (by decide) rfl (fun ls hl => ?_)
              refine lv_goto (tgt := 53) hx hb dX7_roundGoes_91 (by decide) ?_
              exact ih53 (i + 1) (by omega) (by omega) _ _ _ hw (lv_sub hl [1, 2, 0] rfl)
        exact L53 (n + 1) 0 (by omega) (by omega) _ _ _ hw (lv_sub hl [1, 2, 0] rfl)
      · have hlt : i < n := by rw [hn] at c11; exact nI_lt_of (by omega) c11 (by omega)
        refine lv_iload_n hx hb dX7_roundGoes_14 rfl (lv_at hl 1 rfl) ?_
        refine lv_aload_n hx hb dX7_roundGoes_15 rfl (lv_at hl 0 rfl) ?_
        refine lv_iload_n hx hb dX7_roundGoes_16 rfl (lv_at hl 2 rfl) ?_
        refine s_calli (runV cf (m_slack (d := d) (cdf := cdf) (kf := kf) (sf := sf) (pl := pl) (ft := ft) hf hT i (by omega)) hw [0, 1, 2, 3, 4, 5] (by decide) rfl km_X7_slack ki_X7_slack q1064 (run_recv (ci := 7) (T := TX7) (N := 39) hw 0 rfl rfl) rfl rfl hl.1 rfl dX7_roundGoes_17) hw [0, 1, 2, 3, 4, 5] (by decide) rfl (fun _ => rfl) (fun r_17 u_15 H locs hp_16 hw => ?_)
        have hw : WD g A s H locs [bO a 7 fs, bI g (ad 0) 60 d, bI g (ad 5) 1344 cdf, bI g (ad 6) 14 kf, bI g (ad 7) 14 sf, bI g (ad 9) 96 u_15] := hw
        subst hp_16
        refine lv_aload_n hx hb dX7_roundGoes_20 rfl (lv_at hl 0 rfl) ?_
        refine s_get (v := .ref (ad 0)) fb7 cf hw 0 rfl 0 rfl q921 (hf.2 0 rfl) dX7_roundGoes_21 ?_
        refine lv_iconst (v := 2) hx hb dX7_roundGoes_24 (by decide) ?_
        refine s_iald (j := 2) cf hw 1 rfl (rfl) (by decide) rfl dX7_roundGoes_25 ?_
        refine lv_icmp_lt (tgt := 35) hx hb dX7_roundGoes_26 (by decide) (fun c26 => ?_) (fun c26 => ?_)
        · refine lv_iconst (v := 0) hx hb dX7_roundGoes_35 (by decide) ?_
          refine lv_topr (y := if d 2 ≤ slackF ft d i then (1 : Int32) <<< (nI i &&& 31) else 0) (by grind) ?_
          refine lv_ior hx hb dX7_roundGoes_36 ?_
          refine lv_istore_n (lv' := [(1, .int ((itn (fun h st => st ||| (if d 2 ≤ slackF ft d h then (1 : Int32) <<< (nI h &&& 31) else 0)) i 0) ||| (if d 2 ≤ slackF ft d i then (1 : Int32) <<< (nI i &&& 31) else 0))), (0, .ref a), (2, .int (nI i))]) hx hb dX7_roundGoes_37 rfl hl (by decide) rfl (fun ls hl => ?_)
          refine lv_iinc (v := nI (i + 1)) (lv' := [(2, .int (nI (i + 1))), (1, .int ((itn (fun h st => st ||| (if d 2 ≤ slackF ft d h then (1 : Int32) <<< (nI h &&& 31) else 0)) i 0) ||| (if d 2 ≤ slackF ft d i then (1 : Int32) <<< (nI i &&& 31) else 0))), (0, .ref a)]) hx hb dX7_roundGoes_38 hl (k := 2) rfl (nI_1 i) (by decide) rfl (fun ls hl => ?_)
          refine lv_goto (tgt := 4) hx hb dX7_roundGoes_41 (by decide) ?_
          exact ih4 (i + 1) u_15 (by omega) (by omega) _ _ _ hw (lv_sub hl [2, 1, 0] rfl)
        · refine lv_iconst (v := 1) hx hb dX7_roundGoes_29 (by decide) ?_
          refine lv_iload_n hx hb dX7_roundGoes_30 rfl (lv_at hl 2 rfl) ?_
          refine lv_ishl hx hb dX7_roundGoes_31 ?_
          refine lv_goto (tgt := 36) hx hb dX7_roundGoes_32 (by decide) ?_
          refine lv_topr (y := if d 2 ≤ slackF ft d i then (1 : Int32) <<< (nI i &&& 31) else 0) (by grind) ?_
          refine lv_ior hx hb dX7_roundGoes_36 ?_
          refine lv_istore_n (lv' := [(1, .int ((itn (fun h st => st ||| (if d 2 ≤ slackF ft d h then (1 : Int32) <<< (nI h &&& 31) else 0)) i 0) ||| (if d 2 ≤ slackF ft d i then (1 : Int32) <<< (nI i &&& 31) else 0))), (0, .ref a), (2, .int (nI i))]) hx hb dX7_roundGoes_37 rfl hl (by decide) rfl (fun ls hl => ?_)
          refine lv_iinc (v := nI (i + 1)) (lv' := [(2, .int (nI (i + 1))), (1, .int ((itn (fun h st => st ||| (if d 2 ≤ slackF ft d h then (1 : Int32) <<< (nI h &&& 31) else 0)) i 0) ||| (if d 2 ≤ slackF ft d i then (1 : Int32) <<< (nI i &&& 31) else 0))), (0, .ref a)]) hx hb dX7_roundGoes_38 hl (k := 2) rfl (nI_1 i) (by decide) rfl (fun ls hl => ?_)
          refine lv_goto (tgt := 4) hx hb dX7_roundGoes_41 (by decide) ?_
          exact ih4 (i + 1) u_15 (by omega) (by omega) _ _ _ hw (lv_sub hl [2, 1, 0] rfl)
  exact L4 (n + 1) 0 pl (by omega) (by omega) _ _ _ hw (lv_sub hl [2, 1, 0] rfl)
set_option maxRecDepth 100000 in
set_option maxHeartbeats 4000000 in
theorem m_delivers {l : Launch} {g : GG} {a : Nat} {ad : Nat → Nat} {fs : List Value} (hf : MF ad fs) {d cdf kf sf pl : DD} {ft : TXC} (hT : TxOK d kf sf cdf 0 ft) (h : Nat) (hh : h < 10) : Ct l g yX7_delivers cX7_delivers 2 (Option.none : Option Jvm.ClassFile.FieldType) 4 0 0 [.ref a, .int (nI h)] [bO a 7 fs, bI g (ad 0) 60 d, bI g (ad 5) 1344 cdf, bI g (ad 6) 14 kf, bI g (ad 7) 14 sf, bI g (ad 9) 96 pl] (QV g (fun (_ : DD) => True) (fun u => [bO a 7 fs, bI g (ad 0) 60 (deliverF ft d h), bI g (ad 5) 1344 cdf, bI g (ad 6) 14 kf, bI g (ad 7) 14 sf, bI g (ad 9) 96 u])) := by
  refine Ct.of (by decide) rfl ?_
  intro p e s m args below meth c A H locs ls Qf cf hr hlk hnm hQ hw hl
  have hx := cf.1
  have hb := cf.2.1
  have hml := cf.2.2.1
  have hown := cf.2.2.2.1
  have hts := cf.2.2.2.2
  have hw : WD g A s H locs [bO a 7 fs, bI g (ad 0) 60 d, bI g (ad 5) 1344 cdf, bI g (ad 6) 14 kf, bI g (ad 7) 14 sf, bI g (ad 9) 96 pl] := hw
  have hl : lv_has ls 2 [(0, .ref a), (1, .int (nI h))] := hl
  refine lv_aload_n hx hb dX7_delivers_0 rfl (lv_at hl 0 rfl) ?_
  refine lv_iload_n hx hb dX7_delivers_1 rfl (lv_at hl 1 rfl) ?_
  refine s_calli (runV cf (m_slack (d := d) (cdf := cdf) (kf := kf) (sf := sf) (pl := pl) (ft := ft) hf hT h (by omega)) hw [0, 1, 2, 3, 4, 5] (by decide) rfl km_X7_slack ki_X7_slack q1064 (run_recv (ci := 7) (T := TX7) (N := 39) hw 0 rfl rfl) rfl rfl hl.1 rfl dX7_delivers_2) hw [0, 1, 2, 3, 4, 5] (by decide) rfl (fun _ => rfl) (fun r_3 u_1 H locs hp_2 hw => ?_)
  have hw : WD g A s H locs [bO a 7 fs, bI g (ad 0) 60 d, bI g (ad 5) 1344 cdf, bI g (ad 6) 14 kf, bI g (ad 7) 14 sf, bI g (ad 9) 96 u_1] := hw
  subst hp_2
  refine lv_if_ne (tgt := 33) hx hb dX7_delivers_5 (by decide) (fun c5 => ?_) (fun c5 => ?_)
  · refine lv_aload_n hx hb dX7_delivers_33 rfl (lv_at hl 0 rfl) ?_
    refine lv_iload_n hx hb dX7_delivers_34 rfl (lv_at hl 1 rfl) ?_
    refine lv_iconst (v := 3) hx hb dX7_delivers_35 (by decide) ?_
    refine lv_aload_n hx hb dX7_delivers_36 rfl (lv_at hl 0 rfl) ?_
    refine lv_iload_n hx hb dX7_delivers_37 rfl (lv_at hl 1 rfl) ?_
    refine lv_iconst (v := 3) hx hb dX7_delivers_38 (by decide) ?_
    refine s_calli (runV cf (m_of (d := d) hf h 3 (by omega)) hw [0, 1] (by decide) rfl km_X7_of ki_X7_of q1076 (run_recv (ci := 7) (T := TX7) (N := 39) hw 0 rfl rfl) rfl rfl hl.1 rfl dX7_delivers_39) hw [0, 1] (by decide) rfl (fun _ => rfl) (fun r_6 u_4 H locs hp_5 hw => ?_)
    have hw : WD g A s H locs [bO a 7 fs, bI g (ad 0) 60 d, bI g (ad 5) 1344 cdf, bI g (ad 6) 14 kf, bI g (ad 7) 14 sf, bI g (ad 9) 96 u_1] := hw
    subst hp_5
    refine lv_aload_n hx hb dX7_delivers_42 rfl (lv_at hl 0 rfl) ?_
    refine s_get (v := .ref (ad 0)) fb7 cf hw 0 rfl 0 rfl q921 (hf.2 0 rfl) dX7_delivers_43 ?_
    refine lv_iconst (v := 3) hx hb dX7_delivers_46 (by decide) ?_
    refine s_iald (j := 3) cf hw 1 rfl (rfl) (by decide) rfl dX7_delivers_47 ?_
    refine lv_iadd hx hb dX7_delivers_48 ?_
    refine lv_iconst (v := 0) hx hb dX7_delivers_49 (by decide) ?_
    refine lv_bipush (v := 99) hx hb dX7_delivers_50 (by decide) ?_
    refine s_calli (runS cf (m_held ((d (10 + 5 * h + 3)) + (d 3)) 0 99) hw [] (by decide) rfl km_X7_held ks_X7_held q1090 rfl rfl hl.1 rfl dX7_delivers_52) hw [] (by decide) rfl (fun _ => rfl) (fun r_9 u_7 H locs hp_8 hw => ?_)
    have hw : WD g A s H locs [bO a 7 fs, bI g (ad 0) 60 d, bI g (ad 5) 1344 cdf, bI g (ad 6) 14 kf, bI g (ad 7) 14 sf, bI g (ad 9) 96 u_1] := hw
    subst hp_8
    refine s_callv (runV cf (m_sets (d := d) hf h 3 (held ((d (10 + 5 * h + 3)) + (d 3)) 0 99) (by omega)) hw [0, 1] (by decide) rfl km_X7_sets ki_X7_sets q1051 (run_recv (ci := 7) (T := TX7) (N := 39) hw 0 rfl rfl) rfl rfl hl.1 rfl dX7_delivers_55) hw [0, 1] (by decide) rfl (fun _ => rfl) (fun u_10 H locs hp_11 hw => ?_)
    have hw : WD g A s H locs [bO a 7 fs, bI g (ad 0) 60 (upd d (10 + 5 * h + 3) (held ((d (10 + 5 * h + 3)) + (d 3)) 0 99)), bI g (ad 5) 1344 cdf, bI g (ad 6) 14 kf, bI g (ad 7) 14 sf, bI g (ad 9) 96 u_1] := hw
    exact s_vret cf hr hlk u_1 (by rw [show deliverF ft d h = upd d (10 + 5 * h + 3) (held ((d (10 + 5 * h + 3)) + (d 3)) 0 99) by unfold deliverF; rw [if_neg c5]]; exact hw) trivial (Nat.le_of_ble_eq_true rfl) (Nat.le_of_ble_eq_true rfl) dX7_delivers_58 hQ
  · refine lv_aload_n hx hb dX7_delivers_8 rfl (lv_at hl 0 rfl) ?_
    refine s_get (v := .ref (ad 0)) fb7 cf hw 0 rfl 0 rfl q921 (hf.2 0 rfl) dX7_delivers_9 ?_
    refine lv_bipush (v := 7) hx hb dX7_delivers_12 (by decide) ?_
    refine lv_aload_n hx hb dX7_delivers_14 rfl (lv_at hl 0 rfl) ?_
    refine s_get (v := .ref (ad 0)) fb7 cf hw 0 rfl 0 rfl q921 (hf.2 0 rfl) dX7_delivers_15 ?_
    refine lv_bipush (v := 7) hx hb dX7_delivers_18 (by decide) ?_
    refine s_iald (j := 7) cf hw 1 rfl (rfl) (by decide) rfl dX7_delivers_20 ?_
    refine lv_iconst (v := 1) hx hb dX7_delivers_21 (by decide) ?_
    refine lv_iadd hx hb dX7_delivers_22 ?_
    refine lv_iconst (v := 0) hx hb dX7_delivers_23 (by decide) ?_
    refine lv_ldc hx hb hown (hts _ q1161) dX7_delivers_24 ?_
    refine s_calli (runS cf (m_held ((d 7) + 1) 0 99999) hw [] (by decide) rfl km_X7_held ks_X7_held q1090 rfl rfl hl.1 rfl dX7_delivers_26) hw [] (by decide) rfl (fun _ => rfl) (fun r_14 u_12 H locs hp_13 hw => ?_)
    have hw : WD g A s H locs [bO a 7 fs, bI g (ad 0) 60 d, bI g (ad 5) 1344 cdf, bI g (ad 6) 14 kf, bI g (ad 7) 14 sf, bI g (ad 9) 96 u_1] := hw
    subst hp_13
    refine s_iast (j := 7) cf hw 1 rfl (rfl) (by decide) rfl dX7_delivers_29 (fun H locs hw => ?_)
    have hw : WD g A s H locs [bO a 7 fs, bI g (ad 0) 60 (upd d 7 (held ((d 7) + 1) 0 99999)), bI g (ad 5) 1344 cdf, bI g (ad 6) 14 kf, bI g (ad 7) 14 sf, bI g (ad 9) 96 u_1] := hw
    refine lv_goto (tgt := 58) hx hb dX7_delivers_30 (by decide) ?_
    exact s_vret cf hr hlk u_1 (by rw [show deliverF ft d h = upd d 7 (held ((d 7) + 1) 0 99999) by unfold deliverF; rw [if_pos c5]]; exact hw) trivial (Nat.le_of_ble_eq_true rfl) (Nat.le_of_ble_eq_true rfl) dX7_delivers_58 hQ
