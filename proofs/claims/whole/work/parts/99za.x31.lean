set_option maxRecDepth 100000 in
set_option maxHeartbeats 4000000 in
theorem c_text {l : Launch} {g : GG} {o t t2 t3 : Nat} {lad ad ch rd : Nat → Nat} {kp wt w_ o_ b_ n_ p_ k_ : Int32} {d cn tf : DD} {tr : Nat → Option Nat} {tp nt : Nat} (htp : tp ≤ 96) (hby : BY tf tp) (hnt : d 9 = nI nt) (hnt14 : nt ≤ 14) (cz sz : DD) : Ct l g yX6_text cX6_text 3 (Option.some Jvm.ClassFile.FieldType.int) 6 2 99 [.ref o] [bO o 6 (cF (lad 0) t t3 t2 ch kp (nI tp) wt), bO (ch 5) 1 (rF rd w_ o_ b_ n_ p_ k_), bI g (rd 1) 96 cz, bI g (rd 2) 96 sz, bI g (ch 6) 96 tf, bO t 4 (tF (lad 0) ad (d 0) (d 9) (d 5) (d 6) (d 7) (d 1) (d 8)), bI g (ad 7) 3 cn, bO (lad 0) 0 ([.ref (lad 1), .ref (lad 2), .ref (lad 3)]), bR g 4 (lad 1) 14 tr] (QI g (fun r (u : (Nat × Nat) × DD × DD × MS) => r = R_text d tf tp ∧ (okTx d tf tp → u.2.2.2 = (fltM tf tp).2 ∧ CR u.2.1 u.2.2.2.2.1)) (fun u => [bO o 6 (cF (lad 0) t t3 t2 ch kp 0 wt), bO (ch 5) 1 (rF rd (nI u.2.2.2.2.1.length) (nI u.2.2.2.2.2.1.length) (nI u.2.2.2.2.2.2.1) (nI u.2.2.2.2.2.2.2.1) (nI u.2.2.2.2.2.2.2.2) (kyM tf tp)), bI g (rd 1) 96 u.2.1 ++ (if okTx d tf tp then bI g u.1.2 u.2.2.2.2.1.length (va_cpy u.2.1 (fun _ => 0) 0 0 u.2.2.2.2.1.length) ++ bO u.1.1 5 ([.int (kyM tf tp), .int (nI u.2.2.2.2.2.2.2.2), .ref u.1.2]) else []), bI g (rd 2) 96 u.2.2.1, bI g (ch 6) 96 tf, bO t 4 (tF (lad 0) ad (d 0) (if okTx d tf tp then nI nt + 1 else d 9) (d 5) (d 6) (d 7) (d 1) (d 8)), bI g (ad 7) 3 (if okTx d tf tp then upd cn (kyM tf tp).toNatClampNeg (nI nt) else cn), bO (lad 0) 0 ([.ref (lad 1), .ref (lad 2), .ref (lad 3)]), bR g 4 (lad 1) 14 (if okTx d tf tp then va_up tr nt (some u.1.1) else tr)])) := by
  refine Ct.of (by decide) rfl ?_
  intro p e s m args below meth c A H locs ls Qf cf hr hlk hnm hQ hw hl
  have hx := cf.1
  have hb := cf.2.1
  have hml := cf.2.2.1
  have hown := cf.2.2.2.1
  have hts := cf.2.2.2.2
  have hw : WD g A s H locs [bO o 6 (cF (lad 0) t t3 t2 ch kp (nI tp) wt), bO (ch 5) 1 (rF rd w_ o_ b_ n_ p_ k_), bI g (rd 1) 96 cz, bI g (rd 2) 96 sz, bI g (ch 6) 96 tf, bO t 4 (tF (lad 0) ad (d 0) (d 9) (d 5) (d 6) (d 7) (d 1) (d 8)), bI g (ad 7) 3 cn, bO (lad 0) 0 ([.ref (lad 1), .ref (lad 2), .ref (lad 3)]), bR g 4 (lad 1) 14 tr] := hw
  have hl : lv_has ls 3 [(0, .ref o)] := hl
  refine lv_aload_n hx hb dX6_text_0 rfl (lv_at hl 0 rfl) ?_
  refine s_get (v := .ref (ch 5)) fb6 cf hw 0 rfl 5 rfl q311 rfl dX6_text_1 ?_
  refine lv_aload_n hx hb dX6_text_4 rfl (lv_at hl 0 rfl) ?_
  refine s_get (v := .ref (ch 6)) fb6 cf hw 0 rfl 6 rfl q312 rfl dX6_text_5 ?_
  refine lv_aload_n hx hb dX6_text_8 rfl (lv_at hl 0 rfl) ?_
  refine s_get (v := .int (nI tp)) fb6 cf hw 0 rfl 7 rfl q313 rfl dX6_text_9 ?_
  refine s_calli (runVN cf (x_faultOf (ra := ch 5) (ta := ch 6) (rd := rd) (tf := tf) htp hby cz sz) hw [1, 2, 3, 4] (by decide) rfl km_X1_faultOf ki_X1_faultOf q650 (run_recv (ci := 1) (T := TX1) (N := 8) hw 1 rfl rfl) rfl rfl hl.1 rfl dX6_text_12) hw [1, 2, 3, 4] (by decide) rfl (fun _ => rfl) (fun r_3 u_1 H locs hp_2 hw => ?_)
  have hw : WD g A s H locs [bO o 6 (cF (lad 0) t t3 t2 ch kp (nI tp) wt), bO (ch 5) 1 (rF rd (nI u_1.2.2.2.1.length) (nI u_1.2.2.2.2.1.length) (nI u_1.2.2.2.2.2.1) (nI u_1.2.2.2.2.2.2.1) (nI u_1.2.2.2.2.2.2.2) (kyM tf tp)), bI g (rd 1) 96 u_1.1, bI g (rd 2) 96 u_1.2.1, bI g (ch 6) 96 tf, bO t 4 (tF (lad 0) ad (d 0) (d 9) (d 5) (d 6) (d 7) (d 1) (d 8)), bI g (ad 7) 3 cn, bO (lad 0) 0 ([.ref (lad 1), .ref (lad 2), .ref (lad 3)]), bR g 4 (lad 1) 14 tr] := hw
  obtain ⟨hr1, hr2⟩ := hp_2
  refine lv_istore_n (lv' := [(1, .int r_3), (0, .ref o)]) hx hb dX6_text_15 rfl hl (by decide) rfl (fun ls hl => ?_)
  refine lv_aload_n hx hb dX6_text_16 rfl (lv_at hl 1 rfl) ?_
  refine lv_iconst (v := 0) hx hb dX6_text_17 (by decide) ?_
  refine s_put (v := .int 0) fb6 cf hw 0 rfl 7 rfl q313 rfl rfl rfl rfl dX6_text_18 (fun H locs hw => ?_)
  have hw : WD g A s H locs [bO o 6 (cF (lad 0) t t3 t2 ch kp 0 wt), bO (ch 5) 1 (rF rd (nI u_1.2.2.2.1.length) (nI u_1.2.2.2.2.1.length) (nI u_1.2.2.2.2.2.1) (nI u_1.2.2.2.2.2.2.1) (nI u_1.2.2.2.2.2.2.2) (kyM tf tp)), bI g (rd 1) 96 u_1.1, bI g (rd 2) 96 u_1.2.1, bI g (ch 6) 96 tf, bO t 4 (tF (lad 0) ad (d 0) (d 9) (d 5) (d 6) (d 7) (d 1) (d 8)), bI g (ad 7) 3 cn, bO (lad 0) 0 ([.ref (lad 1), .ref (lad 2), .ref (lad 3)]), bR g 4 (lad 1) 14 tr] := hw
  refine lv_iload_n hx hb dX6_text_21 rfl (lv_at hl 0 rfl) ?_
  refine lv_if_lt (tgt := 30) hx hb dX6_text_22 (by decide) (fun c22 => ?_) (fun c22 => ?_)
  · have hnw : ¬ wrT tf tp := fun z => by rw [hr1, (text_eq htp hby).1 z] at c22; exact absurd c22 (Int32.not_lt.mpr (nI_pos' (by have := bg_tp (tf := tf) (tp := tp) (tqF tf tp).1; omega)))
    have hT := (text_eq htp hby).2 hnw
    have hm1 : r_3 = -1 := hr1.trans hT.1
    refine lv_aload_n hx hb dX6_text_30 rfl (lv_at hl 1 rfl) ?_
    refine s_get (v := .ref t) fb6 cf hw 0 rfl 1 rfl q307 rfl dX6_text_31 ?_
    refine s_getN (v := .int (d 9)) fb4 cf hw 5 rfl 9 rfl q176 rfl dX6_text_34 ?_
    refine lv_topr (y := nI nt) (hnt) ?_
    refine lv_istore_n (lv' := [(2, .int (nI nt)), (1, .int r_3), (0, .ref o)]) hx hb dX6_text_37 rfl hl (by decide) rfl (fun ls hl => ?_)
    refine lv_iload_n hx hb dX6_text_38 rfl (lv_at hl 0 rfl) ?_
    refine lv_bipush (v := 14) hx hb dX6_text_39 (by decide) ?_
    refine lv_icmp_lt (tgt := 47) hx hb dX6_text_41 (by decide) (fun c41 => ?_) (fun c41 => ?_)
    · have hlt : nt < 14 := (nI_ltI (by omega) (by decide)).mp (show nI nt < nI 14 from c41)
      have hok : okTx d tf tp := ⟨hnw, fun z => by rw [hnt] at z; have := (nI_eq (show nt < 2147483648 by omega) (show 14 < 2147483648 by decide)).mp z; omega⟩
      have hL : u_1.2.2.2.1.length ≤ 95 := by rw [(hr2 hm1).1, hT.2.1, List.length_map]; have := tq_len (tf := tf) (tp := tp) htp (by simpa using fun z => hnw (Or.inl z)); omega
      have hke : kyM tf tp = nI (kyM tf tp).toNatClampNeg ∧ (kyM tf tp).toNatClampNeg < 3 := by rw [key_same hby]; rcases hT.2.2.2.2 with z | z | z <;> rw [z] <;> decide
      refine lv_aload_n hx hb dX6_text_47 rfl (lv_at hl 2 rfl) ?_
      refine s_get (v := .ref (lad 0)) fb6 cf hw 0 rfl 0 rfl q306 rfl dX6_text_48 ?_
      refine s_getN (v := .ref (lad 1)) fb0 cf hw 7 rfl 0 rfl q124 rfl dX6_text_51 ?_
      refine lv_iload_n hx hb dX6_text_54 rfl (lv_at hl 0 rfl) ?_
      refine lv_aload_n hx hb dX6_text_55 rfl (lv_at hl 2 rfl) ?_
      refine s_get (v := .ref (ch 5)) fb6 cf hw 0 rfl 5 rfl q311 rfl dX6_text_56 ?_
      refine s_callq (runVN cf (x_asText (ra := ch 5) (rd := rd) hL) hw [1, 2] (by decide) rfl km_X1_asText ki_X1_asText q792 (run_recv (ci := 1) (T := TX1) (N := 8) hw 1 rfl rfl) rfl rfl hl.1 rfl dX6_text_59) hw [1, 2] (by decide) rfl (fun _ => rfl) (fun r_6 u_4 H locs hp_5 hw => ?_)
      have hw : WD g A s H locs [bO o 6 (cF (lad 0) t t3 t2 ch kp 0 wt), bO (ch 5) 1 (rF rd (nI u_1.2.2.2.1.length) (nI u_1.2.2.2.2.1.length) (nI u_1.2.2.2.2.2.1) (nI u_1.2.2.2.2.2.2.1) (nI u_1.2.2.2.2.2.2.2) (kyM tf tp)), bI g (rd 1) 96 u_1.1 ++ bI g u_4.2 u_1.2.2.2.1.length (va_cpy u_1.1 (fun _ => 0) 0 0 u_1.2.2.2.1.length) ++ bO u_4.1 5 ([.int (kyM tf tp), .int (nI u_1.2.2.2.2.2.2.2), .ref u_4.2]), bI g (rd 2) 96 u_1.2.1, bI g (ch 6) 96 tf, bO t 4 (tF (lad 0) ad (d 0) (d 9) (d 5) (d 6) (d 7) (d 1) (d 8)), bI g (ad 7) 3 cn, bO (lad 0) 0 ([.ref (lad 1), .ref (lad 2), .ref (lad 3)]), bR g 4 (lad 1) 14 tr] := hw
      have hw : WD g A s H locs [bO o 6 (cF (lad 0) t t3 t2 ch kp 0 wt), bO (ch 5) 1 (rF rd (nI u_1.2.2.2.1.length) (nI u_1.2.2.2.2.1.length) (nI u_1.2.2.2.2.2.1) (nI u_1.2.2.2.2.2.2.1) (nI u_1.2.2.2.2.2.2.2) (kyM tf tp)), bI g (rd 1) 96 u_1.1, bI g u_4.2 u_1.2.2.2.1.length (va_cpy u_1.1 (fun _ => 0) 0 0 u_1.2.2.2.1.length), bO u_4.1 5 ([.int (kyM tf tp), .int (nI u_1.2.2.2.2.2.2.2), .ref u_4.2]), bI g (rd 2) 96 u_1.2.1, bI g (ch 6) 96 tf, bO t 4 (tF (lad 0) ad (d 0) (d 9) (d 5) (d 6) (d 7) (d 1) (d 8)), bI g (ad 7) 3 cn, bO (lad 0) 0 ([.ref (lad 1), .ref (lad 2), .ref (lad 3)]), bR g 4 (lad 1) 14 tr] := hw.re rfl
      subst hp_5
      refine s_aast (j := nt) cf hw 4 rfl 10 rfl 4 rfl rfl (rfl) hlt rfl dX6_text_62 (fun H locs hw => ?_)
      have hw : WD g A s H locs [bO o 6 (cF (lad 0) t t3 t2 ch kp 0 wt), bO (ch 5) 1 (rF rd (nI u_1.2.2.2.1.length) (nI u_1.2.2.2.2.1.length) (nI u_1.2.2.2.2.2.1) (nI u_1.2.2.2.2.2.2.1) (nI u_1.2.2.2.2.2.2.2) (kyM tf tp)), bI g (rd 1) 96 u_1.1, bI g u_4.2 u_1.2.2.2.1.length (va_cpy u_1.1 (fun _ => 0) 0 0 u_1.2.2.2.1.length), bO u_4.1 5 ([.int (kyM tf tp), .int (nI u_1.2.2.2.2.2.2.2), .ref u_4.2]), bI g (rd 2) 96 u_1.2.1, bI g (ch 6) 96 tf, bO t 4 (tF (lad 0) ad (d 0) (d 9) (d 5) (d 6) (d 7) (d 1) (d 8)), bI g (ad 7) 3 cn, bO (lad 0) 0 ([.ref (lad 1), .ref (lad 2), .ref (lad 3)]), bR g 4 (lad 1) 14 (va_up tr nt (some u_4.1))] := hw
      refine lv_aload_n hx hb dX6_text_63 rfl (lv_at hl 2 rfl) ?_
      refine s_get (v := .ref t) fb6 cf hw 0 rfl 1 rfl q307 rfl dX6_text_64 ?_
      refine s_getN (v := .ref (ad 7)) fb4 cf hw 7 rfl 7 rfl q172 rfl dX6_text_67 ?_
      refine lv_aload_n hx hb dX6_text_70 rfl (lv_at hl 2 rfl) ?_
      refine s_get (v := .ref (ch 5)) fb6 cf hw 0 rfl 5 rfl q311 rfl dX6_text_71 ?_
      refine s_getN (v := .int (kyM tf tp)) fb1 cf hw 1 rfl 7 rfl q231 rfl dX6_text_74 ?_
      refine lv_iload_n hx hb dX6_text_77 rfl (lv_at hl 0 rfl) ?_
      refine s_iast (j := (kyM tf tp).toNatClampNeg) cf hw 8 rfl (hke.1) hke.2 rfl dX6_text_78 (fun H locs hw => ?_)
      have hw : WD g A s H locs [bO o 6 (cF (lad 0) t t3 t2 ch kp 0 wt), bO (ch 5) 1 (rF rd (nI u_1.2.2.2.1.length) (nI u_1.2.2.2.2.1.length) (nI u_1.2.2.2.2.2.1) (nI u_1.2.2.2.2.2.2.1) (nI u_1.2.2.2.2.2.2.2) (kyM tf tp)), bI g (rd 1) 96 u_1.1, bI g u_4.2 u_1.2.2.2.1.length (va_cpy u_1.1 (fun _ => 0) 0 0 u_1.2.2.2.1.length), bO u_4.1 5 ([.int (kyM tf tp), .int (nI u_1.2.2.2.2.2.2.2), .ref u_4.2]), bI g (rd 2) 96 u_1.2.1, bI g (ch 6) 96 tf, bO t 4 (tF (lad 0) ad (d 0) (d 9) (d 5) (d 6) (d 7) (d 1) (d 8)), bI g (ad 7) 3 (upd cn ((kyM tf tp).toNatClampNeg) (nI nt)), bO (lad 0) 0 ([.ref (lad 1), .ref (lad 2), .ref (lad 3)]), bR g 4 (lad 1) 14 (va_up tr nt (some u_4.1))] := hw
      refine lv_aload_n hx hb dX6_text_79 rfl (lv_at hl 2 rfl) ?_
      refine s_get (v := .ref t) fb6 cf hw 0 rfl 1 rfl q307 rfl dX6_text_80 ?_
      refine lv_iload_n hx hb dX6_text_83 rfl (lv_at hl 0 rfl) ?_
      refine lv_iconst (v := 1) hx hb dX6_text_84 (by decide) ?_
      refine lv_iadd hx hb dX6_text_85 ?_
      refine s_putN (v := .int ((nI nt) + 1)) fb4 cf hw 7 rfl 9 rfl q176 rfl rfl rfl rfl dX6_text_86 (fun H locs hw => ?_)
      have hw : WD g A s H locs [bO o 6 (cF (lad 0) t t3 t2 ch kp 0 wt), bO (ch 5) 1 (rF rd (nI u_1.2.2.2.1.length) (nI u_1.2.2.2.2.1.length) (nI u_1.2.2.2.2.2.1) (nI u_1.2.2.2.2.2.2.1) (nI u_1.2.2.2.2.2.2.2) (kyM tf tp)), bI g (rd 1) 96 u_1.1, bI g u_4.2 u_1.2.2.2.1.length (va_cpy u_1.1 (fun _ => 0) 0 0 u_1.2.2.2.1.length), bO u_4.1 5 ([.int (kyM tf tp), .int (nI u_1.2.2.2.2.2.2.2), .ref u_4.2]), bI g (rd 2) 96 u_1.2.1, bI g (ch 6) 96 tf, bO t 4 (tF (lad 0) ad (d 0) ((nI nt) + 1) (d 5) (d 6) (d 7) (d 1) (d 8)), bI g (ad 7) 3 (upd cn ((kyM tf tp).toNatClampNeg) (nI nt)), bO (lad 0) 0 ([.ref (lad 1), .ref (lad 2), .ref (lad 3)]), bR g 4 (lad 1) 14 (va_up tr nt (some u_4.1))] := hw
      refine lv_iload_n hx hb dX6_text_89 rfl (lv_at hl 0 rfl) ?_
      have hwF : WD g A s H locs ((fun (u : (Nat × Nat) × DD × DD × MS) => [bO o 6 (cF (lad 0) t t3 t2 ch kp 0 wt), bO (ch 5) 1 (rF rd (nI u.2.2.2.2.1.length) (nI u.2.2.2.2.2.1.length) (nI u.2.2.2.2.2.2.1) (nI u.2.2.2.2.2.2.2.1) (nI u.2.2.2.2.2.2.2.2) (kyM tf tp)), bI g (rd 1) 96 u.2.1 ++ (if okTx d tf tp then bI g u.1.2 u.2.2.2.2.1.length (va_cpy u.2.1 (fun _ => 0) 0 0 u.2.2.2.2.1.length) ++ bO u.1.1 5 ([.int (kyM tf tp), .int (nI u.2.2.2.2.2.2.2.2), .ref u.1.2]) else []), bI g (rd 2) 96 u.2.2.1, bI g (ch 6) 96 tf, bO t 4 (tF (lad 0) ad (d 0) (if okTx d tf tp then nI nt + 1 else d 9) (d 5) (d 6) (d 7) (d 1) (d 8)), bI g (ad 7) 3 (if okTx d tf tp then upd cn (kyM tf tp).toNatClampNeg (nI nt) else cn), bO (lad 0) 0 ([.ref (lad 1), .ref (lad 2), .ref (lad 3)]), bR g 4 (lad 1) 14 (if okTx d tf tp then va_up tr nt (some u.1.1) else tr)]) (u_4, u_1)) := by
        simp only [if_pos hok]
        exact hw.re rfl
      exact s_iret cf hr hlk (u_4, u_1) hwF (⟨by unfold R_text; rw [if_neg hok.1, if_neg hok.2, hnt], fun _ => hr2 hm1⟩) (Nat.le_of_ble_eq_true rfl) (Nat.le_of_ble_eq_true rfl) dX6_text_90 hQ
    · have h14 : d 9 = 14 := by rw [hnt]; have : nt = 14 := (by rcases Nat.lt_or_ge nt 14 with z | z; exact absurd (show nI nt < nI 14 from (nI_ltI (by omega) (by decide)).mpr z) c41; omega); rw [this]; rfl
      have hno : ¬ okTx d tf tp := fun z => z.2 h14
      refine lv_ldc hx hb hown (hts _ q362) dX6_text_44 ?_
      have hwF : WD g A s H locs ((fun (u : (Nat × Nat) × DD × DD × MS) => [bO o 6 (cF (lad 0) t t3 t2 ch kp 0 wt), bO (ch 5) 1 (rF rd (nI u.2.2.2.2.1.length) (nI u.2.2.2.2.2.1.length) (nI u.2.2.2.2.2.2.1) (nI u.2.2.2.2.2.2.2.1) (nI u.2.2.2.2.2.2.2.2) (kyM tf tp)), bI g (rd 1) 96 u.2.1 ++ (if okTx d tf tp then bI g u.1.2 u.2.2.2.2.1.length (va_cpy u.2.1 (fun _ => 0) 0 0 u.2.2.2.2.1.length) ++ bO u.1.1 5 ([.int (kyM tf tp), .int (nI u.2.2.2.2.2.2.2.2), .ref u.1.2]) else []), bI g (rd 2) 96 u.2.2.1, bI g (ch 6) 96 tf, bO t 4 (tF (lad 0) ad (d 0) (if okTx d tf tp then nI nt + 1 else d 9) (d 5) (d 6) (d 7) (d 1) (d 8)), bI g (ad 7) 3 (if okTx d tf tp then upd cn (kyM tf tp).toNatClampNeg (nI nt) else cn), bO (lad 0) 0 ([.ref (lad 1), .ref (lad 2), .ref (lad 3)]), bR g 4 (lad 1) 14 (if okTx d tf tp then va_up tr nt (some u.1.1) else tr)]) ((0, 0), u_1)) := by
        simp only [if_neg hno, List.append_nil]
        exact hw.re rfl
      exact s_iret cf hr hlk ((0, 0), u_1) hwF (⟨by unfold R_text; rw [if_neg hnw, if_pos h14], fun z => absurd z hno⟩) (Nat.le_of_ble_eq_true rfl) (Nat.le_of_ble_eq_true rfl) dX6_text_46 hQ
  · have hwr : wrT tf tp := Classical.byContradiction (fun z => absurd c22 (by rw [hr1, ((text_eq htp hby).2 z).1]; decide))
    have hno : ¬ okTx d tf tp := fun z => z.1 hwr
    refine lv_bipush (v := (-100)) hx hb dX6_text_25 (by decide) ?_
    refine lv_iload_n hx hb dX6_text_27 rfl (lv_at hl 0 rfl) ?_
    refine lv_isub hx hb dX6_text_28 ?_
    have hwF : WD g A s H locs ((fun (u : (Nat × Nat) × DD × DD × MS) => [bO o 6 (cF (lad 0) t t3 t2 ch kp 0 wt), bO (ch 5) 1 (rF rd (nI u.2.2.2.2.1.length) (nI u.2.2.2.2.2.1.length) (nI u.2.2.2.2.2.2.1) (nI u.2.2.2.2.2.2.2.1) (nI u.2.2.2.2.2.2.2.2) (kyM tf tp)), bI g (rd 1) 96 u.2.1 ++ (if okTx d tf tp then bI g u.1.2 u.2.2.2.2.1.length (va_cpy u.2.1 (fun _ => 0) 0 0 u.2.2.2.2.1.length) ++ bO u.1.1 5 ([.int (kyM tf tp), .int (nI u.2.2.2.2.2.2.2.2), .ref u.1.2]) else []), bI g (rd 2) 96 u.2.2.1, bI g (ch 6) 96 tf, bO t 4 (tF (lad 0) ad (d 0) (if okTx d tf tp then nI nt + 1 else d 9) (d 5) (d 6) (d 7) (d 1) (d 8)), bI g (ad 7) 3 (if okTx d tf tp then upd cn (kyM tf tp).toNatClampNeg (nI nt) else cn), bO (lad 0) 0 ([.ref (lad 1), .ref (lad 2), .ref (lad 3)]), bR g 4 (lad 1) 14 (if okTx d tf tp then va_up tr nt (some u.1.1) else tr)]) ((0, 0), u_1)) := by
      simp only [if_neg hno, List.append_nil]
      exact hw.re rfl
    exact s_iret cf hr hlk ((0, 0), u_1) hwF (⟨by unfold R_text; rw [if_pos hwr, hr1, (text_eq htp hby).1 hwr], fun z => absurd z hno⟩) (Nat.le_of_ble_eq_true rfl) (Nat.le_of_ble_eq_true rfl) dX6_text_29 hQ
