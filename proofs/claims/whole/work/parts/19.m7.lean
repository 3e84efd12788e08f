set_option maxRecDepth 100000 in
set_option maxHeartbeats 4000000 in
theorem m_deal {l : Launch} {g : GG} {a : Nat} {ad : Nat → Nat} {fs : List Value} (hf : MF ad fs) {d : DD} {n : Nat} (hn : d 0 = nI n) (hn10 : n ≤ 10) (x : Int32) : Ct l g yX7_deal cX7_deal 7 (Option.some Jvm.ClassFile.FieldType.int) 2 0 0 [.ref a, .int x] [bO a 7 fs, bI g (ad 0) 60 d] (QI g (fun r (_ : Unit) => r = R_deal d x) (fun _ => [bO a 7 fs, bI g (ad 0) 60 (D_deal d x)])) := by
  refine Ct.of (by decide) rfl ?_
  intro p e s m args below meth c A H locs ls Qf cf hr hlk hnm hQ hw hl
  have hx := cf.1
  have hb := cf.2.1
  have hml := cf.2.2.1
  have hown := cf.2.2.2.1
  have hts := cf.2.2.2.2
  have hw : WD g A s H locs [bO a 7 fs, bI g (ad 0) 60 d] := hw
  have hl : lv_has ls 7 [(0, .ref a), (1, .int x)] := hl
  refine lv_iload_n hx hb dX7_deal_0 rfl (lv_at hl 1 rfl) ?_
  refine lv_i2l (v := (x : Int32).toInt64) hx hb dX7_deal_1 rfl ?_
  refine lv_lconst (v := (1 : Int32).toInt64) hx hb dX7_deal_2 (by decide) ?_
  refine lv_ldc2 hx hb hown (hts _ q1142) dX7_deal_3 ?_
  refine lv_toplr (y := (10 : Int32).toInt64) (by decide) ?_
  refine s_calli (runS cf (m_in (x : Int32) (1 : Int32) (10 : Int32)) hw [] (by decide) rfl km_X7_in ks_X7_in q1045 rfl rfl hl.1 rfl dX7_deal_6) hw [] (by decide) rfl (fun _ => rfl) (fun r_3 u_1 H locs hp_2 hw => ?_)
  have hw : WD g A s H locs [bO a 7 fs, bI g (ad 0) 60 d] := hw
  subst hp_2
  refine lv_if_ne (tgt := 15) hx hb dX7_deal_9 (by decide) (fun c9 => ?_) (fun c9 => ?_)
  · have c9 := b01_n c9
    obtain ⟨k, hk, hkx⟩ := rng_nat (m := 10) (by omega) (by grind) c9.2
    subst hkx
    refine lv_iconst (v := 0) hx hb dX7_deal_15 (by decide) ?_
    refine lv_istore_n (lv' := [(2, .int 0), (0, .ref a), (1, .int (nI k))]) hx hb dX7_deal_16 rfl hl (by decide) rfl (fun ls hl => ?_)
    have L17 : ∀ (fu : Nat) (i : Nat), (i ≤ k) → (n + i ≤ 10) → (k < i + fu) → ∀ (H : Heap) (locs : List Loc) (ls : Array Slot), WD g A s H locs [bO a 7 fs, bI g (ad 0) 60 (lotsF i d)] → lv_has ls 7 [(0, .ref a), (1, .int (nI k)), (2, .int (nI i))] → W p l e (rmx 2 0 0) s m args below meth c H locs 0 0 Qf (F0 m 17 ls []) := by
      intro fu
      induction fu with
      | zero => intro i hi hi2 hfu; exfalso; omega
      | succ fu ih17 =>
        intro i hi hi2 hfu H locs ls hw hl
        refine lv_iload_n hx hb dX7_deal_17 rfl (lv_at hl 2 rfl) ?_
        refine lv_iload_n hx hb dX7_deal_18 rfl (lv_at hl 1 rfl) ?_
        refine lv_icmp_ge (tgt := 86) hx hb dX7_deal_19 (by decide) (fun c19 => ?_) (fun c19 => ?_)
        · have hik := nI_le_of (by omega) c19 (by omega)
          have hdn : dealN d (nI k) = i := by unfold dealN; rw [nI_clamp (by omega), nH_of hn hn10]; omega
          refine lv_iload_n hx hb dX7_deal_86 rfl (lv_at hl 2 rfl) ?_
          exact s_iret cf hr hlk () (by have q : D_deal d (nI k) = lotsF i d := (by unfold D_deal; rw [if_pos c9, hdn]); rw [q]; exact hw) (by unfold R_deal; rw [if_pos c9, hdn]) (Nat.le_of_ble_eq_true rfl) (Nat.le_of_ble_eq_true rfl) dX7_deal_87 hQ
        · have hik := nI_lt_of (by omega) c19 (by omega)
          have hd0 := lotsF_0 hn i
          refine lv_aload_n hx hb dX7_deal_22 rfl (lv_at hl 0 rfl) ?_
          refine s_get (v := .ref (ad 0)) fb7 cf hw 0 rfl 0 rfl q921 (hf.2 0 rfl) dX7_deal_23 ?_
          refine lv_iconst (v := 0) hx hb dX7_deal_26 (by decide) ?_
          refine s_iald (j := 0) cf hw 1 rfl (rfl) (by decide) rfl dX7_deal_27 ?_
          refine lv_bipush (v := 10) hx hb dX7_deal_28 (by decide) ?_
          refine lv_icmp_ge (tgt := 86) hx hb dX7_deal_30 (by decide) (fun c30 => ?_) (fun c30 => ?_)
          · have hik2 := by rw [hd0] at c30; exact nI_le_of (n := 10) (by omega) c30 (by omega)
            have hdn : dealN d (nI k) = i := by unfold dealN; rw [nI_clamp (by omega), nH_of hn hn10]; omega
            refine lv_iload_n hx hb dX7_deal_86 rfl (lv_at hl 2 rfl) ?_
            exact s_iret cf hr hlk () (by have q : D_deal d (nI k) = lotsF i d := (by unfold D_deal; rw [if_pos c9, hdn]); rw [q]; exact hw) (by unfold R_deal; rw [if_pos c9, hdn]) (Nat.le_of_ble_eq_true rfl) (Nat.le_of_ble_eq_true rfl) dX7_deal_87 hQ
          · have hik2 := by rw [hd0] at c30; exact nI_lt_of (n := 10) (by omega) c30 (by omega)
            have hd10 : ¬ lotsF i d 0 = 10 := by rw [hd0]; intro q; have := (nI_eq (b := 10) (by omega) (by omega)).mp q; omega
            refine lv_aload_n hx hb dX7_deal_33 rfl (lv_at hl 0 rfl) ?_
            refine s_calli (runV cf (m_draw (d := lotsF i d) hf) hw [0, 1] (by decide) rfl km_X7_draw ki_X7_draw q1143 (run_recv (ci := 7) (T := TX7) (N := 39) hw 0 rfl rfl) rfl rfl hl.1 rfl dX7_deal_34) hw [0, 1] (by decide) rfl (fun _ => rfl) (fun r_6 u_4 H locs hp_5 hw => ?_)
            have hw : WD g A s H locs [bO a 7 fs, bI g (ad 0) 60 (drawF (lotsF i d))] := hw
            subst hp_5
            refine lv_bipush (v := 6) hx hb dX7_deal_37 (by decide) ?_
            refine lv_irem hx hb dX7_deal_39 (by decide) ?_
            refine lv_topr (y := remF (dwF ((drawF (lotsF i d)) 8)) 6) (rfl) ?_
            refine lv_istore_n (lv' := [(3, .int (remF (dwF ((drawF (lotsF i d)) 8)) 6)), (0, .ref a), (1, .int (nI k)), (2, .int (nI i))]) hx hb dX7_deal_40 rfl hl (by decide) rfl (fun ls hl => ?_)
            refine lv_aload_n hx hb dX7_deal_41 rfl (lv_at hl 1 rfl) ?_
            refine s_calli (runV cf (m_draw (d := drawF (lotsF i d)) hf) hw [0, 1] (by decide) rfl km_X7_draw ki_X7_draw q1143 (run_recv (ci := 7) (T := TX7) (N := 39) hw 0 rfl rfl) rfl rfl hl.1 rfl dX7_deal_42) hw [0, 1] (by decide) rfl (fun _ => rfl) (fun r_9 u_7 H locs hp_8 hw => ?_)
            have hw : WD g A s H locs [bO a 7 fs, bI g (ad 0) 60 (drawF (drawF (lotsF i d)))] := hw
            subst hp_8
            refine lv_bipush (v := 100) hx hb dX7_deal_45 (by decide) ?_
            refine lv_irem hx hb dX7_deal_47 (by decide) ?_
            refine lv_topr (y := remF (dwF ((drawF (drawF (lotsF i d))) 8)) 100) (rfl) ?_
            refine lv_istore (lv' := [(4, .int (remF (dwF ((drawF (drawF (lotsF i d))) 8)) 100)), (3, .int (remF (dwF ((drawF (lotsF i d)) 8)) 6)), (0, .ref a), (1, .int (nI k)), (2, .int (nI i))]) hx hb dX7_deal_48 hl (by decide) rfl (fun ls hl => ?_)
            refine lv_aload_n hx hb dX7_deal_50 rfl (lv_at hl 2 rfl) ?_
            refine s_calli (runV cf (m_draw (d := drawF (drawF (lotsF i d))) hf) hw [0, 1] (by decide) rfl km_X7_draw ki_X7_draw q1143 (run_recv (ci := 7) (T := TX7) (N := 39) hw 0 rfl rfl) rfl rfl hl.1 rfl dX7_deal_51) hw [0, 1] (by decide) rfl (fun _ => rfl) (fun r_12 u_10 H locs hp_11 hw => ?_)
            have hw : WD g A s H locs [bO a 7 fs, bI g (ad 0) 60 (drawF (drawF (drawF (lotsF i d))))] := hw
            subst hp_11
            refine lv_bipush (v := 100) hx hb dX7_deal_54 (by decide) ?_
            refine lv_irem hx hb dX7_deal_56 (by decide) ?_
            refine lv_topr (y := remF (dwF ((drawF (drawF (drawF (lotsF i d)))) 8)) 100) (rfl) ?_
            refine lv_istore (lv' := [(5, .int (remF (dwF ((drawF (drawF (drawF (lotsF i d)))) 8)) 100)), (4, .int (remF (dwF ((drawF (drawF (lotsF i d))) 8)) 100)), (3, .int (remF (dwF ((drawF (lotsF i d)) 8)) 6)), (0, .ref a), (1, .int (nI k)), (2, .int (nI i))]) hx hb dX7_deal_57 hl (by decide) rfl (fun ls hl => ?_)
            refine lv_aload_n hx hb dX7_deal_59 rfl (lv_at hl 3 rfl) ?_
            refine s_calli (runV cf (m_draw (d := drawF (drawF (drawF (lotsF i d)))) hf) hw [0, 1] (by decide) rfl km_X7_draw ki_X7_draw q1143 (run_recv (ci := 7) (T := TX7) (N := 39) hw 0 rfl rfl) rfl rfl hl.1 rfl dX7_deal_60) hw [0, 1] (by decide) rfl (fun _ => rfl) (fun r_15 u_13 H locs hp_14 hw => ?_)
            have hw : WD g A s H locs [bO a 7 fs, bI g (ad 0) 60 (drawF (drawF (drawF (drawF (lotsF i d)))))] := hw
            subst hp_14
            refine lv_bipush (v := 100) hx hb dX7_deal_63 (by decide) ?_
            refine lv_irem hx hb dX7_deal_65 (by decide) ?_
            refine lv_topr (y := remF (dwF ((drawF (drawF (drawF (drawF (lotsF i d))))) 8)) 100) (rfl) ?_
            refine lv_istore (lv' := [(6, .int (remF (dwF ((drawF (drawF (drawF (drawF (lotsF i d))))) 8)) 100)), (5, .int (remF (dwF ((drawF (drawF (drawF (lotsF i d)))) 8)) 100)), (4, .int (remF (dwF ((drawF (drawF (lotsF i d))) 8)) 100)), (3, .int (remF (dwF ((drawF (lotsF i d)) 8)) 6)), (0, .ref a), (1, .int (nI k)), (2, .int (nI i))]) hx hb dX7_deal_66 hl (by decide) rfl (fun ls hl => ?_)
            refine lv_aload_n hx hb dX7_deal_68 rfl (lv_at hl 4 rfl) ?_
            refine lv_iload_n hx hb dX7_deal_69 rfl (lv_at hl 3 rfl) ?_
            refine lv_iload hx hb dX7_deal_70 (lv_at hl 2 rfl) ?_
            refine lv_iload hx hb dX7_deal_72 (lv_at hl 1 rfl) ?_
            refine lv_iload hx hb dX7_deal_74 (lv_at hl 0 rfl) ?_
            refine s_calli (runV cf (m_house (d := drawF (drawF (drawF (drawF (lotsF i d))))) hf (n := (n + i)) (by rw [drawF_lo (by omega), drawF_lo (by omega), drawF_lo (by omega), drawF_lo (by omega)]; exact hd0) (by omega) (remF (dwF ((drawF (lotsF i d)) 8)) 6) (remF (dwF ((drawF (drawF (lotsF i d))) 8)) 100) (remF (dwF ((drawF (drawF (drawF (lotsF i d)))) 8)) 100) (remF (dwF ((drawF (drawF (drawF (drawF (lotsF i d))))) 8)) 100)) hw [0, 1] (by decide) rfl km_X7_house ki_X7_house q1148 (run_recv (ci := 7) (T := TX7) (N := 39) hw 0 rfl rfl) rfl rfl hl.1 rfl dX7_deal_76) hw [0, 1] (by decide) rfl (fun _ => rfl) (fun r_18 u_16 H locs hp_17 hw => ?_)
            have hw : WD g A s H locs [bO a 7 fs, bI g (ad 0) 60 (D_house (drawF (drawF (drawF (drawF (lotsF i d))))) (remF (dwF ((drawF (lotsF i d)) 8)) 6) (remF (dwF ((drawF (drawF (lotsF i d))) 8)) 100) (remF (dwF ((drawF (drawF (drawF (lotsF i d)))) 8)) 100) (remF (dwF ((drawF (drawF (drawF (drawF (lotsF i d))))) 8)) 100))] := hw
            subst hp_17
            have hw : WD g A s H locs [bO a 7 fs, bI g (ad 0) 60 (lotF (lotsF i d))] := by have q : lotF (lotsF i d) = D_house (drawF (drawF (drawF (drawF (lotsF i d))))) (remF (dwF ((drawF (lotsF i d)) 8)) 6) (remF (dwF ((drawF (drawF (lotsF i d))) 8)) 100) (remF (dwF ((drawF (drawF (drawF (lotsF i d)))) 8)) 100) (remF (dwF ((drawF (drawF (drawF (drawF (lotsF i d))))) 8)) 100) := (by unfold lotF D_house; rw [if_pos ⟨lot_ok _ _ _ _, by rw [drawF_lo (by omega), drawF_lo (by omega), drawF_lo (by omega), drawF_lo (by omega)]; exact hd10⟩]); rw [q]; exact hw
            refine lv_pop hx hb dX7_deal_79 rfl ?_
            refine lv_iinc (v := nI (i + 1)) (lv' := [(2, .int (nI (i + 1))), (6, .int (remF (dwF ((drawF (drawF (drawF (drawF (lotsF i d))))) 8)) 100)), (5, .int (remF (dwF ((drawF (drawF (drawF (lotsF i d)))) 8)) 100)), (4, .int (remF (dwF ((drawF (drawF (lotsF i d))) 8)) 100)), (3, .int (remF (dwF ((drawF (lotsF i d)) 8)) 6)), (0, .ref a), (1, .int (nI k))]) hx hb dX7_deal_80 hl (k := 6) rfl (nI_1 i) (by decide) rfl (fun ls hl => ?_)
            refine lv_goto (tgt := 17) hx hb dX7_deal_83 (by decide) ?_
            exact ih17 (i + 1) (by omega) (by omega) (by omega) _ _ _ hw (lv_sub hl [5, 6, 0] rfl)
    exact L17 (k + 1) 0 (by omega) (by omega) (by omega) _ _ _ hw (lv_sub hl [1, 2, 0] rfl)
  · have c9 := b01_z c9
    refine lv_ldc hx hb hown (hts _ q1049) dX7_deal_12 ?_
    exact s_iret cf hr hlk () (by have q : D_deal d x = d := (by unfold D_deal; rw [if_neg c9]); rw [q]; exact hw) (by unfold R_deal; rw [if_neg c9]) (Nat.le_of_ble_eq_true rfl) (Nat.le_of_ble_eq_true rfl) dX7_deal_14 hQ
set_option maxRecDepth 100000 in
set_option maxHeartbeats 4000000 in
theorem m_behind {l : Launch} {g : GG} {a : Nat} {ad : Nat → Nat} {fs : List Value} (hf : MF ad fs) {d as_ cdf kf sf pl : DD} {ft : TXC} (hT : TxOK d kf sf cdf 0 ft) {n : Nat} (hn : d 0 = nI n) (hn10 : n ≤ 10) {ni : Nat} (hni : d 1 = nI ni) (hni9 : ni ≤ 9999) (x w : Int32) : Ct l g yX7_behind cX7_behind 4 (Option.some Jvm.ClassFile.FieldType.int) 7 0 0 [.ref a, .int x, .int w] [bO a 7 fs, bI g (ad 0) 60 d, bI g (ad 2) 60 as_, bI g (ad 5) 1344 cdf, bI g (ad 6) 14 kf, bI g (ad 7) 14 sf, bI g (ad 9) 96 pl] (QI g (fun r (_ : DD × DD) => r = R_behind ft d x w) (fun u => [bO a 7 fs, bI g (ad 0) 60 d, bI g (ad 2) 60 u.1, bI g (ad 5) 1344 cdf, bI g (ad 6) 14 kf, bI g (ad 7) 14 sf, bI g (ad 9) 96 u.2])) := by
  refine Ct.of (by decide) rfl ?_
  intro p e s m args below meth c A H locs ls Qf cf hr hlk hnm hQ hw hl
  have hx := cf.1
  have hb := cf.2.1
  have hml := cf.2.2.1
  have hown := cf.2.2.2.1
  have hts := cf.2.2.2.2
  have hw : WD g A s H locs [bO a 7 fs, bI g (ad 0) 60 d, bI g (ad 2) 60 as_, bI g (ad 5) 1344 cdf, bI g (ad 6) 14 kf, bI g (ad 7) 14 sf, bI g (ad 9) 96 pl] := hw
  have hl : lv_has ls 4 [(0, .ref a), (1, .int x), (2, .int w)] := hl
  refine lv_iload_n hx hb dX7_behind_0 rfl (lv_at hl 1 rfl) ?_
  refine lv_i2l (v := (x : Int32).toInt64) hx hb dX7_behind_1 rfl ?_
  refine lv_lconst (v := (0 : Int32).toInt64) hx hb dX7_behind_2 (by decide) ?_
  refine lv_ldc2 hx hb hown (hts _ q1137) dX7_behind_3 ?_
  refine lv_toplr (y := (100 : Int32).toInt64) (by decide) ?_
  refine s_calli (runS cf (m_in (x : Int32) (0 : Int32) (100 : Int32)) hw [] (by decide) rfl km_X7_in ks_X7_in q1045 rfl rfl hl.1 rfl dX7_behind_6) hw [] (by decide) rfl (fun _ => rfl) (fun r_3 u_1 H locs hp_2 hw => ?_)
  have hw : WD g A s H locs [bO a 7 fs, bI g (ad 0) 60 d, bI g (ad 2) 60 as_, bI g (ad 5) 1344 cdf, bI g (ad 6) 14 kf, bI g (ad 7) 14 sf, bI g (ad 9) 96 pl] := hw
  subst hp_2
  refine lv_if_eq (tgt := 34) hx hb dX7_behind_9 (by decide) (fun c9 => ?_) (fun c9 => ?_)
  · have c9 := b01_z c9
    refine lv_ldc hx hb hown (hts _ q1049) dX7_behind_34 ?_
    exact s_iret cf hr hlk (as_, pl) hw (by unfold R_behind; rw [if_neg (by grind)]) (Nat.le_of_ble_eq_true rfl) (Nat.le_of_ble_eq_true rfl) dX7_behind_36 hQ
  · have c9 := b01_n c9
    refine lv_iload_n hx hb dX7_behind_12 rfl (lv_at hl 2 rfl) ?_
    refine lv_i2l (v := (w : Int32).toInt64) hx hb dX7_behind_13 rfl ?_
    refine lv_lconst (v := (0 : Int32).toInt64) hx hb dX7_behind_14 (by decide) ?_
    refine lv_ldc2 hx hb hown (hts _ q1130) dX7_behind_15 ?_
    refine lv_toplr (y := (4 : Int32).toInt64) (by decide) ?_
    refine s_calli (runS cf (m_in (w : Int32) (0 : Int32) (4 : Int32)) hw [] (by decide) rfl km_X7_in ks_X7_in q1045 rfl rfl hl.1 rfl dX7_behind_18) hw [] (by decide) rfl (fun _ => rfl) (fun r_6 u_4 H locs hp_5 hw => ?_)
    have hw : WD g A s H locs [bO a 7 fs, bI g (ad 0) 60 d, bI g (ad 2) 60 as_, bI g (ad 5) 1344 cdf, bI g (ad 6) 14 kf, bI g (ad 7) 14 sf, bI g (ad 9) 96 pl] := hw
    subst hp_5
    refine lv_if_ne (tgt := 37) hx hb dX7_behind_21 (by decide) (fun c21 => ?_) (fun c21 => ?_)
    · have c21 := b01_n c21
      have hok : (0 ≤ x ∧ x ≤ 100) ∧ ((0 ≤ w ∧ w ≤ 4) ∨ isH d (w - 5)) := by grind
      obtain ⟨k, hk, hkx⟩ := rng_nat (m := 100) (by omega) (hok.1.1) hok.1.2
      subst hkx
      have hnk : nightsF ft k d 0 = nI n := by rw [nightsF_lo (by omega) (by omega) (by omega) (by omega) (by omega) (by omega)]; exact hn
      refine lv_aload_n hx hb dX7_behind_37 rfl (lv_at hl 0 rfl) ?_
      refine s_get (v := .ref (ad 0)) fb7 cf hw 0 rfl 0 rfl q921 (hf.2 0 rfl) dX7_behind_38 ?_
      refine lv_aload_n hx hb dX7_behind_41 rfl (lv_at hl 0 rfl) ?_
      refine s_get (v := .ref (ad 2)) fb7 cf hw 0 rfl 2 rfl q923 (hf.2 2 rfl) dX7_behind_42 ?_
      refine s_callv (runS cf (m_copies (x := ad 0) (y := ad 2) (f := d) (t := as_)) hw [1, 2] (by decide) rfl km_X7_copies ks_X7_copies q1203 rfl rfl hl.1 rfl dX7_behind_45) hw [1, 2] (by decide) rfl (fun _ => rfl) (fun u_7 H locs hp_8 hw => ?_)
      have hw : WD g A s H locs [bO a 7 fs, bI g (ad 0) 60 d, bI g (ad 2) 60 d, bI g (ad 5) 1344 cdf, bI g (ad 6) 14 kf, bI g (ad 7) 14 sf, bI g (ad 9) 96 pl] := hw
      refine lv_aload_n hx hb dX7_behind_48 rfl (lv_at hl 0 rfl) ?_
      refine lv_iload_n hx hb dX7_behind_49 rfl (lv_at hl 1 rfl) ?_
      refine s_callv (runV cf (m_nightsGo (d := d) (cdf := cdf) (kf := kf) (sf := sf) (pl := pl) (ft := ft) hf hT (n := n) hn hn10 (ni := ni) hni k (by omega)) hw [0, 1, 3, 4, 5, 6] (by decide) rfl km_X7_nightsGo ki_X7_nightsGo q1174 (run_recv (ci := 7) (T := TX7) (N := 39) hw 0 rfl rfl) rfl rfl hl.1 rfl dX7_behind_50) hw [0, 1, 3, 4, 5, 6] (by decide) rfl (fun _ => rfl) (fun u_9 H locs hp_10 hw => ?_)
      have hw : WD g A s H locs [bO a 7 fs, bI g (ad 0) 60 (nightsF ft k d), bI g (ad 2) 60 d, bI g (ad 5) 1344 cdf, bI g (ad 6) 14 kf, bI g (ad 7) 14 sf, bI g (ad 9) 96 u_9] := hw
      refine lv_iload_n hx hb dX7_behind_53 rfl (lv_at hl 2 rfl) ?_
      refine lv_iconst (v := 5) hx hb dX7_behind_54 (by decide) ?_
      refine lv_icmp_ge (tgt := 66) hx hb dX7_behind_55 (by decide) (fun c55 => ?_) (fun c55 => ?_)
      · have hH : isH d (w - 5) := by grind
        obtain ⟨j, hjn, hxj, hcl⟩ := isH_nat hn hn10 hH
        refine lv_aload_n hx hb dX7_behind_66 rfl (lv_at hl 0 rfl) ?_
        refine lv_iload_n hx hb dX7_behind_67 rfl (lv_at hl 2 rfl) ?_
        refine lv_iconst (v := 5) hx hb dX7_behind_68 (by decide) ?_
        refine lv_isub hx hb dX7_behind_69 ?_
        refine lv_topr (y := nI j) (hxj) ?_
        refine lv_iconst (v := 4) hx hb dX7_behind_70 (by decide) ?_
        refine s_calli (runV cf (m_of (d := nightsF ft k d) hf j 4 (by omega)) hw [0, 1] (by decide) rfl km_X7_of ki_X7_of q1076 (run_recv (ci := 7) (T := TX7) (N := 39) hw 0 rfl rfl) rfl rfl hl.1 rfl dX7_behind_71) hw [0, 1] (by decide) rfl (fun _ => rfl) (fun r_13 u_11 H locs hp_12 hw => ?_)
        have hw : WD g A s H locs [bO a 7 fs, bI g (ad 0) 60 (nightsF ft k d), bI g (ad 2) 60 d, bI g (ad 5) 1344 cdf, bI g (ad 6) 14 kf, bI g (ad 7) 14 sf, bI g (ad 9) 96 u_9] := hw
        subst hp_12
        refine lv_istore_n (lv' := [(3, .int ((nightsF ft k d) (10 + 5 * j + 4))), (0, .ref a), (1, .int (nI k)), (2, .int w)]) hx hb dX7_behind_74 rfl hl (by decide) rfl (fun ls hl => ?_)
        refine lv_aload_n hx hb dX7_behind_75 rfl (lv_at hl 1 rfl) ?_
        refine s_get (v := .ref (ad 2)) fb7 cf hw 0 rfl 2 rfl q923 (hf.2 2 rfl) dX7_behind_76 ?_
        refine lv_aload_n hx hb dX7_behind_79 rfl (lv_at hl 1 rfl) ?_
        refine s_get (v := .ref (ad 0)) fb7 cf hw 0 rfl 0 rfl q921 (hf.2 0 rfl) dX7_behind_80 ?_
        refine s_callv (runS cf (m_copies (x := ad 2) (y := ad 0) (f := d) (t := nightsF ft k d)) hw [2, 1] (by decide) rfl km_X7_copies ks_X7_copies q1203 rfl rfl hl.1 rfl dX7_behind_83) hw [2, 1] (by decide) rfl (fun _ => rfl) (fun u_14 H locs hp_15 hw => ?_)
        have hw : WD g A s H locs [bO a 7 fs, bI g (ad 0) 60 d, bI g (ad 2) 60 d, bI g (ad 5) 1344 cdf, bI g (ad 6) 14 kf, bI g (ad 7) 14 sf, bI g (ad 9) 96 u_9] := hw
        refine lv_iload_n hx hb dX7_behind_86 rfl (lv_at hl 0 rfl) ?_
        exact s_iret cf hr hlk (d, u_9) hw (by unfold R_behind; rw [if_pos hok, nI_clamp (by omega), if_neg (Int32.not_lt.mpr c55), hcl]) (Nat.le_of_ble_eq_true rfl) (Nat.le_of_ble_eq_true rfl) dX7_behind_87 hQ
      · refine lv_aload_n hx hb dX7_behind_58 rfl (lv_at hl 0 rfl) ?_
        refine lv_iload_n hx hb dX7_behind_59 rfl (lv_at hl 2 rfl) ?_
        refine s_calli (runV cf (m_terrace (d := nightsF ft k d) hf (n := n) hnk hn10 w) hw [0, 1] (by decide) rfl km_X7_terrace ki_X7_terrace q1206 (run_recv (ci := 7) (T := TX7) (N := 39) hw 0 rfl rfl) rfl rfl hl.1 rfl dX7_behind_60) hw [0, 1] (by decide) rfl (fun _ => rfl) (fun r_18 u_16 H locs hp_17 hw => ?_)
        have hw : WD g A s H locs [bO a 7 fs, bI g (ad 0) 60 (nightsF ft k d), bI g (ad 2) 60 d, bI g (ad 5) 1344 cdf, bI g (ad 6) 14 kf, bI g (ad 7) 14 sf, bI g (ad 9) 96 u_9] := hw
        subst hp_17
        refine lv_goto (tgt := 74) hx hb dX7_behind_63 (by decide) ?_
        refine lv_istore_n (lv' := [(3, .int (R_terr (nightsF ft k d) w)), (0, .ref a), (1, .int (nI k)), (2, .int w)]) hx hb dX7_behind_74 rfl hl (by decide) rfl (fun ls hl => ?_)
        refine lv_aload_n hx hb dX7_behind_75 rfl (lv_at hl 1 rfl) ?_
        refine s_get (v := .ref (ad 2)) fb7 cf hw 0 rfl 2 rfl q923 (hf.2 2 rfl) dX7_behind_76 ?_
        refine lv_aload_n hx hb dX7_behind_79 rfl (lv_at hl 1 rfl) ?_
        refine s_get (v := .ref (ad 0)) fb7 cf hw 0 rfl 0 rfl q921 (hf.2 0 rfl) dX7_behind_80 ?_
        refine s_callv (runS cf (m_copies (x := ad 2) (y := ad 0) (f := d) (t := nightsF ft k d)) hw [2, 1] (by decide) rfl km_X7_copies ks_X7_copies q1203 rfl rfl hl.1 rfl dX7_behind_83) hw [2, 1] (by decide) rfl (fun _ => rfl) (fun u_19 H locs hp_20 hw => ?_)
        have hw : WD g A s H locs [bO a 7 fs, bI g (ad 0) 60 d, bI g (ad 2) 60 d, bI g (ad 5) 1344 cdf, bI g (ad 6) 14 kf, bI g (ad 7) 14 sf, bI g (ad 9) 96 u_9] := hw
        refine lv_iload_n hx hb dX7_behind_86 rfl (lv_at hl 0 rfl) ?_
        exact s_iret cf hr hlk (d, u_9) hw (by unfold R_behind; rw [if_pos hok, nI_clamp (by omega), if_pos (Int32.not_le.mp c55)]) (Nat.le_of_ble_eq_true rfl) (Nat.le_of_ble_eq_true rfl) dX7_behind_87 hQ
    · have c21 := b01_z c21
      refine lv_aload_n hx hb dX7_behind_24 rfl (lv_at hl 0 rfl) ?_
      refine lv_iload_n hx hb dX7_behind_25 rfl (lv_at hl 2 rfl) ?_
      refine lv_iconst (v := 5) hx hb dX7_behind_26 (by decide) ?_
      refine lv_isub hx hb dX7_behind_27 ?_
      refine s_calli (runV cf (m_isHouse (d := d) hf (w - 5)) hw [0, 1] (by decide) rfl km_X7_isHouse ki_X7_isHouse q1059 (run_recv (ci := 7) (T := TX7) (N := 39) hw 0 rfl rfl) rfl rfl hl.1 rfl dX7_behind_28) hw [0, 1] (by decide) rfl (fun _ => rfl) (fun r_23 u_21 H locs hp_22 hw => ?_)
      have hw : WD g A s H locs [bO a 7 fs, bI g (ad 0) 60 d, bI g (ad 2) 60 as_, bI g (ad 5) 1344 cdf, bI g (ad 6) 14 kf, bI g (ad 7) 14 sf, bI g (ad 9) 96 pl] := hw
      subst hp_22
      refine lv_if_ne (tgt := 37) hx hb dX7_behind_31 (by decide) (fun c31 => ?_) (fun c31 => ?_)
      · have c31 := b01_n c31
        have hok : (0 ≤ x ∧ x ≤ 100) ∧ ((0 ≤ w ∧ w ≤ 4) ∨ isH d (w - 5)) := by grind
        obtain ⟨k, hk, hkx⟩ := rng_nat (m := 100) (by omega) (hok.1.1) hok.1.2
        subst hkx
        have hnk : nightsF ft k d 0 = nI n := by rw [nightsF_lo (by omega) (by omega) (by omega) (by omega) (by omega) (by omega)]; exact hn
        refine lv_aload_n hx hb dX7_behind_37 rfl (lv_at hl 0 rfl) ?_
        refine s_get (v := .ref (ad 0)) fb7 cf hw 0 rfl 0 rfl q921 (hf.2 0 rfl) dX7_behind_38 ?_
        refine lv_aload_n hx hb dX7_behind_41 rfl (lv_at hl 0 rfl) ?_
        refine s_get (v := .ref (ad 2)) fb7 cf hw 0 rfl 2 rfl q923 (hf.2 2 rfl) dX7_behind_42 ?_
        refine s_callv (runS cf (m_copies (x := ad 0) (y := ad 2) (f := d) (t := as_)) hw [1, 2] (by decide) rfl km_X7_copies ks_X7_copies q1203 rfl rfl hl.1 rfl dX7_behind_45) hw [1, 2] (by decide) rfl (fun _ => rfl) (fun u_24 H locs hp_25 hw => ?_)
        have hw : WD g A s H locs [bO a 7 fs, bI g (ad 0) 60 d, bI g (ad 2) 60 d, bI g (ad 5) 1344 cdf, bI g (ad 6) 14 kf, bI g (ad 7) 14 sf, bI g (ad 9) 96 pl] := hw
        refine lv_aload_n hx hb dX7_behind_48 rfl (lv_at hl 0 rfl) ?_
        refine lv_iload_n hx hb dX7_behind_49 rfl (lv_at hl 1 rfl) ?_
        refine s_callv (runV cf (m_nightsGo (d := d) (cdf := cdf) (kf := kf) (sf := sf) (pl := pl) (ft := ft) hf hT (n := n) hn hn10 (ni := ni) hni k (by omega)) hw [0, 1, 3, 4, 5, 6] (by decide) rfl km_X7_nightsGo ki_X7_nightsGo q1174 (run_recv (ci := 7) (T := TX7) (N := 39) hw 0 rfl rfl) rfl rfl hl.1 rfl dX7_behind_50) hw [0, 1, 3, 4, 5, 6] (by decide) rfl (fun _ => rfl) (fun u_26 H locs hp_27 hw => ?_)
        have hw : WD g A s H locs [bO a 7 fs, bI g (ad 0) 60 (nightsF ft k d), bI g (ad 2) 60 d, bI g (ad 5) 1344 cdf, bI g (ad 6) 14 kf, bI g (ad 7) 14 sf, bI g (ad 9) 96 u_26] := hw
        refine lv_iload_n hx hb dX7_behind_53 rfl (lv_at hl 2 rfl) ?_
        refine lv_iconst (v := 5) hx hb dX7_behind_54 (by decide) ?_
        refine lv_icmp_ge (tgt := 66) hx hb dX7_behind_55 (by decide) (fun c55 => ?_) (fun c55 => ?_)
        · have hH : isH d (w - 5) := by grind
          obtain ⟨j, hjn, hxj, hcl⟩ := isH_nat hn hn10 hH
          refine lv_aload_n hx hb dX7_behind_66 rfl (lv_at hl 0 rfl) ?_
          refine lv_iload_n hx hb dX7_behind_67 rfl (lv_at hl 2 rfl) ?_
          refine lv_iconst (v := 5) hx hb dX7_behind_68 (by decide) ?_
          refine lv_isub hx hb dX7_behind_69 ?_
          refine lv_topr (y := nI j) (hxj) ?_
          refine lv_iconst (v := 4) hx hb dX7_behind_70 (by decide) ?_
          refine s_calli (runV cf (m_of (d := nightsF ft k d) hf j 4 (by omega)) hw [0, 1] (by decide) rfl km_X7_of ki_X7_of q1076 (run_recv (ci := 7) (T := TX7) (N := 39) hw 0 rfl rfl) rfl rfl hl.1 rfl dX7_behind_71) hw [0, 1] (by decide) rfl (fun _ => rfl) (fun r_30 u_28 H locs hp_29 hw => ?_)
          have hw : WD g A s H locs [bO a 7 fs, bI g (ad 0) 60 (nightsF ft k d), bI g (ad 2) 60 d, bI g (ad 5) 1344 cdf, bI g (ad 6) 14 kf, bI g (ad 7) 14 sf, bI g (ad 9) 96 u_26] := hw
          subst hp_29
          refine lv_istore_n (lv' := [(3, .int ((nightsF ft k d) (10 + 5 * j + 4))), (0, .ref a), (1, .int (nI k)), (2, .int w)]) hx hb dX7_behind_74 rfl hl (by decide) rfl (fun ls hl => ?_)
          refine lv_aload_n hx hb dX7_behind_75 rfl (lv_at hl 1 rfl) ?_
          refine s_get (v := .ref (ad 2)) fb7 cf hw 0 rfl 2 rfl q923 (hf.2 2 rfl) dX7_behind_76 ?_
          refine lv_aload_n hx hb dX7_behind_79 rfl (lv_at hl 1 rfl) ?_
          refine s_get (v := .ref (ad 0)) fb7 cf hw 0 rfl 0 rfl q921 (hf.2 0 rfl) dX7_behind_80 ?_
          refine s_callv (runS cf (m_copies (x := ad 2) (y := ad 0) (f := d) (t := nightsF ft k d)) hw [2, 1] (by decide) rfl km_X7_copies ks_X7_copies q1203 rfl rfl hl.1 rfl dX7_behind_83) hw [2, 1] (by decide) rfl (fun _ => rfl) (fun u_31 H locs hp_32 hw => ?_)
          have hw : WD g A s H locs [bO a 7 fs, bI g (ad 0) 60 d, bI g (ad 2) 60 d, bI g (ad 5) 1344 cdf, bI g (ad 6) 14 kf, bI g (ad 7) 14 sf, bI g (ad 9) 96 u_26] := hw
          refine lv_iload_n hx hb dX7_behind_86 rfl (lv_at hl 0 rfl) ?_
          exact s_iret cf hr hlk (d, u_26) hw (by unfold R_behind; rw [if_pos hok, nI_clamp (by omega), if_neg (Int32.not_lt.mpr c55), hcl]) (Nat.le_of_ble_eq_true rfl) (Nat.le_of_ble_eq_true rfl) dX7_behind_87 hQ
        · refine lv_aload_n hx hb dX7_behind_58 rfl (lv_at hl 0 rfl) ?_
          refine lv_iload_n hx hb dX7_behind_59 rfl (lv_at hl 2 rfl) ?_
          refine s_calli (runV cf (m_terrace (d := nightsF ft k d) hf (n := n) hnk hn10 w) hw [0, 1] (by decide) rfl km_X7_terrace ki_X7_terrace q1206 (run_recv (ci := 7) (T := TX7) (N := 39) hw 0 rfl rfl) rfl rfl hl.1 rfl dX7_behind_60) hw [0, 1] (by decide) rfl (fun _ => rfl) (fun r_35 u_33 H locs hp_34 hw => ?_)
          have hw : WD g A s H locs [bO a 7 fs, bI g (ad 0) 60 (nightsF ft k d), bI g (ad 2) 60 d, bI g (ad 5) 1344 cdf, bI g (ad 6) 14 kf, bI g (ad 7) 14 sf, bI g (ad 9) 96 u_26] := hw
          subst hp_34
          refine lv_goto (tgt := 74) hx hb dX7_behind_63 (by decide) ?_
          refine lv_istore_n (lv' := [(3, .int (R_terr (nightsF ft k d) w)), (0, .ref a), (1, .int (nI k)), (2, .int w)]) hx hb dX7_behind_74 rfl hl (by decide) rfl (fun ls hl => ?_)
          refine lv_aload_n hx hb dX7_behind_75 rfl (lv_at hl 1 rfl) ?_
          refine s_get (v := .ref (ad 2)) fb7 cf hw 0 rfl 2 rfl q923 (hf.2 2 rfl) dX7_behind_76 ?_
          refine lv_aload_n hx hb dX7_behind_79 rfl (lv_at hl 1 rfl) ?_
          refine s_get (v := .ref (ad 0)) fb7 cf hw 0 rfl 0 rfl q921 (hf.2 0 rfl) dX7_behind_80 ?_
          refine s_callv (runS cf (m_copies (x := ad 2) (y := ad 0) (f := d) (t := nightsF ft k d)) hw [2, 1] (by decide) rfl km_X7_copies ks_X7_copies q1203 rfl rfl hl.1 rfl dX7_behind_83) hw [2, 1] (by decide) rfl (fun _ => rfl) (fun u_36 H locs hp_37 hw => ?_)
          have hw : WD g A s H locs [bO a 7 fs, bI g (ad 0) 60 d, bI g (ad 2) 60 d, bI g (ad 5) 1344 cdf, bI g (ad 6) 14 kf, bI g (ad 7) 14 sf, bI g (ad 9) 96 u_26] := hw
          refine lv_iload_n hx hb dX7_behind_86 rfl (lv_at hl 0 rfl) ?_
          exact s_iret cf hr hlk (d, u_26) hw (by unfold R_behind; rw [if_pos hok, nI_clamp (by omega), if_pos (Int32.not_le.mp c55)]) (Nat.le_of_ble_eq_true rfl) (Nat.le_of_ble_eq_true rfl) dX7_behind_87 hQ
      · have c31 := b01_z c31
        refine lv_ldc hx hb hown (hts _ q1049) dX7_behind_34 ?_
        exact s_iret cf hr hlk (as_, pl) hw (by unfold R_behind; rw [if_neg (by grind)]) (Nat.le_of_ble_eq_true rfl) (Nat.le_of_ble_eq_true rfl) dX7_behind_36 hQ
set_option maxRecDepth 100000 in
set_option maxHeartbeats 4000000 in
theorem m_cold {l : Launch} {g : GG} {a : Nat} {ad : Nat → Nat} {fs : List Value} (hf : MF ad fs) {d as_ cdf kf sf pl : DD} {ft : TXC} (hT : TxOK d kf sf cdf 0 ft) {n : Nat} (hn : d 0 = nI n) (hn10 : n ≤ 10) {ni : Nat} (hni : d 1 = nI ni) (hni9 : ni ≤ 9999) (x : Int32) : Ct l g yX7_cold cX7_cold 4 (Option.some Jvm.ClassFile.FieldType.int) 6 0 0 [.ref a, .int x] [bO a 7 fs, bI g (ad 0) 60 d, bI g (ad 2) 60 as_, bI g (ad 5) 1344 cdf, bI g (ad 6) 14 kf, bI g (ad 7) 14 sf, bI g (ad 9) 96 pl] (QI g (fun r (_ : DD × DD) => r = R_cold ft d x) (fun u => [bO a 7 fs, bI g (ad 0) 60 d, bI g (ad 2) 60 u.1, bI g (ad 5) 1344 cdf, bI g (ad 6) 14 kf, bI g (ad 7) 14 sf, bI g (ad 9) 96 u.2])) := by
  refine Ct.of (by decide) rfl ?_
  intro p e s m args below meth c A H locs ls Qf cf hr hlk hnm hQ hw hl
  have hx := cf.1
  have hb := cf.2.1
  have hml := cf.2.2.1
  have hown := cf.2.2.2.1
  have hts := cf.2.2.2.2
  have hw : WD g A s H locs [bO a 7 fs, bI g (ad 0) 60 d, bI g (ad 2) 60 as_, bI g (ad 5) 1344 cdf, bI g (ad 6) 14 kf, bI g (ad 7) 14 sf, bI g (ad 9) 96 pl] := hw
  have hl : lv_has ls 4 [(0, .ref a), (1, .int x)] := hl
  refine lv_aload_n hx hb dX7_cold_0 rfl (lv_at hl 0 rfl) ?_
  refine lv_iload_n hx hb dX7_cold_1 rfl (lv_at hl 1 rfl) ?_
  refine s_calli (runV cf (m_isHouse (d := d) hf x) hw [0, 1] (by decide) rfl km_X7_isHouse ki_X7_isHouse q1059 (run_recv (ci := 7) (T := TX7) (N := 39) hw 0 rfl rfl) rfl rfl hl.1 rfl dX7_cold_2) hw [0, 1] (by decide) rfl (fun _ => rfl) (fun r_3 u_1 H locs hp_2 hw => ?_)
  have hw : WD g A s H locs [bO a 7 fs, bI g (ad 0) 60 d, bI g (ad 2) 60 as_, bI g (ad 5) 1344 cdf, bI g (ad 6) 14 kf, bI g (ad 7) 14 sf, bI g (ad 9) 96 pl] := hw
  subst hp_2
  refine lv_if_ne (tgt := 11) hx hb dX7_cold_5 (by decide) (fun c5 => ?_) (fun c5 => ?_)
  · have c5 := b01_n c5
    obtain ⟨j, hjn, hxj, hcl⟩ := isH_nat hn hn10 c5
    subst hxj
    refine lv_aload_n hx hb dX7_cold_11 rfl (lv_at hl 0 rfl) ?_
    refine s_get (v := .ref (ad 0)) fb7 cf hw 0 rfl 0 rfl q921 (hf.2 0 rfl) dX7_cold_12 ?_
    refine lv_aload_n hx hb dX7_cold_15 rfl (lv_at hl 0 rfl) ?_
    refine s_get (v := .ref (ad 2)) fb7 cf hw 0 rfl 2 rfl q923 (hf.2 2 rfl) dX7_cold_16 ?_
    refine s_callv (runS cf (m_copies (x := ad 0) (y := ad 2) (f := d) (t := as_)) hw [1, 2] (by decide) rfl km_X7_copies ks_X7_copies q1203 rfl rfl hl.1 rfl dX7_cold_19) hw [1, 2] (by decide) rfl (fun _ => rfl) (fun u_4 H locs hp_5 hw => ?_)
    have hw : WD g A s H locs [bO a 7 fs, bI g (ad 0) 60 d, bI g (ad 2) 60 d, bI g (ad 5) 1344 cdf, bI g (ad 6) 14 kf, bI g (ad 7) 14 sf, bI g (ad 9) 96 pl] := hw
    refine lv_iconst (v := 0) hx hb dX7_cold_22 (by decide) ?_
    refine lv_istore_n (lv' := [(2, .int 0), (0, .ref a), (1, .int (nI j))]) hx hb dX7_cold_23 rfl hl (by decide) rfl (fun ls hl => ?_)
    have L24 : ∀ (fu : Nat) (i : Nat) (pl : DD), (i ≤ 200) → (lst (fun k => coalAt ft d j k ≤ 0) (200 - i) i = coldK ft d j) → (200 < i + fu) → ∀ (H : Heap) (locs : List Loc) (ls : Array Slot), WD g A s H locs [bO a 7 fs, bI g (ad 0) 60 (nightsF ft i d), bI g (ad 2) 60 d, bI g (ad 5) 1344 cdf, bI g (ad 6) 14 kf, bI g (ad 7) 14 sf, bI g (ad 9) 96 pl] → lv_has ls 4 [(0, .ref a), (1, .int (nI j)), (2, .int (nI i))] → W p l e (rmx 6 0 0) s m args below meth c H locs 0 0 Qf (F0 m 24 ls []) := by
      intro fu
      induction fu with
      | zero => intro i pl hi hls hfu; exfalso; omega
      | succ fu ih24 =>
        intro i pl hi hls hfu H locs ls hw hl
        refine lv_iload_n hx hb dX7_cold_24 rfl (lv_at hl 2 rfl) ?_
        refine lv_sipush (v := 200) hx hb dX7_cold_25 (by decide) ?_
        refine lv_icmp_ge (tgt := 50) hx hb dX7_cold_28 (by decide) (fun c28 => ?_) (fun c28 => ?_)
        · have hi3 : i = 200 := by have := nI_le_of (n := 200) (by omega) c28 (by omega); omega
          have hK : coldK ft d j = i := by rw [← hls, hi3]; rfl
          refine lv_aload_n hx hb dX7_cold_50 rfl (lv_at hl 0 rfl) ?_
          refine lv_iload_n hx hb dX7_cold_51 rfl (lv_at hl 1 rfl) ?_
          refine lv_iconst (v := 3) hx hb dX7_cold_52 (by decide) ?_
          refine s_calli (runV cf (m_of (d := nightsF ft i d) hf j 3 (by omega)) hw [0, 1] (by decide) rfl km_X7_of ki_X7_of q1076 (run_recv (ci := 7) (T := TX7) (N := 39) hw 0 rfl rfl) rfl rfl hl.1 rfl dX7_cold_53) hw [0, 1] (by decide) rfl (fun _ => rfl) (fun r_8 u_6 H locs hp_7 hw => ?_)
          have hw : WD g A s H locs [bO a 7 fs, bI g (ad 0) 60 (nightsF ft i d), bI g (ad 2) 60 d, bI g (ad 5) 1344 cdf, bI g (ad 6) 14 kf, bI g (ad 7) 14 sf, bI g (ad 9) 96 pl] := hw
          subst hp_7
          refine lv_topr (y := coalAt ft d j i) (rfl) ?_
          refine lv_if_ne (tgt := 63) hx hb dX7_cold_56 (by decide) (fun c56 => ?_) (fun c56 => ?_)
          · refine lv_iconst (v := 0) hx hb dX7_cold_63 (by decide) ?_
            refine lv_istore_n (lv' := [(3, .int 0), (0, .ref a), (1, .int (nI j)), (2, .int (nI i))]) hx hb dX7_cold_64 rfl hl (by decide) rfl (fun ls hl => ?_)
            refine lv_aload_n hx hb dX7_cold_65 rfl (lv_at hl 1 rfl) ?_
            refine s_get (v := .ref (ad 2)) fb7 cf hw 0 rfl 2 rfl q923 (hf.2 2 rfl) dX7_cold_66 ?_
            refine lv_aload_n hx hb dX7_cold_69 rfl (lv_at hl 1 rfl) ?_
            refine s_get (v := .ref (ad 0)) fb7 cf hw 0 rfl 0 rfl q921 (hf.2 0 rfl) dX7_cold_70 ?_
            refine s_callv (runS cf (m_copies (x := ad 2) (y := ad 0) (f := d) (t := nightsF ft i d)) hw [2, 1] (by decide) rfl km_X7_copies ks_X7_copies q1203 rfl rfl hl.1 rfl dX7_cold_73) hw [2, 1] (by decide) rfl (fun _ => rfl) (fun u_9 H locs hp_10 hw => ?_)
            have hw : WD g A s H locs [bO a 7 fs, bI g (ad 0) 60 d, bI g (ad 2) 60 d, bI g (ad 5) 1344 cdf, bI g (ad 6) 14 kf, bI g (ad 7) 14 sf, bI g (ad 9) 96 pl] := hw
            refine lv_iload_n hx hb dX7_cold_76 rfl (lv_at hl 0 rfl) ?_
            refine lv_if_eq (tgt := 84) hx hb dX7_cold_77 (by decide) (fun c77 => ?_) (fun c77 => ?_)
            · refine lv_ldc hx hb hown (hts _ q1198) dX7_cold_84 ?_
              exact s_iret cf hr hlk (d, pl) hw (by unfold R_cold; rw [if_pos c5, hcl, hK, if_neg c56]) (Nat.le_of_ble_eq_true rfl) (Nat.le_of_ble_eq_true rfl) dX7_cold_86 hQ
            · exact absurd c77 (by decide)
          · refine lv_iconst (v := 1) hx hb dX7_cold_59 (by decide) ?_
            refine lv_goto (tgt := 64) hx hb dX7_cold_60 (by decide) ?_
            refine lv_istore_n (lv' := [(3, .int 1), (0, .ref a), (1, .int (nI j)), (2, .int (nI i))]) hx hb dX7_cold_64 rfl hl (by decide) rfl (fun ls hl => ?_)
            refine lv_aload_n hx hb dX7_cold_65 rfl (lv_at hl 1 rfl) ?_
            refine s_get (v := .ref (ad 2)) fb7 cf hw 0 rfl 2 rfl q923 (hf.2 2 rfl) dX7_cold_66 ?_
            refine lv_aload_n hx hb dX7_cold_69 rfl (lv_at hl 1 rfl) ?_
            refine s_get (v := .ref (ad 0)) fb7 cf hw 0 rfl 0 rfl q921 (hf.2 0 rfl) dX7_cold_70 ?_
            refine s_callv (runS cf (m_copies (x := ad 2) (y := ad 0) (f := d) (t := nightsF ft i d)) hw [2, 1] (by decide) rfl km_X7_copies ks_X7_copies q1203 rfl rfl hl.1 rfl dX7_cold_73) hw [2, 1] (by decide) rfl (fun _ => rfl) (fun u_11 H locs hp_12 hw => ?_)
            have hw : WD g A s H locs [bO a 7 fs, bI g (ad 0) 60 d, bI g (ad 2) 60 d, bI g (ad 5) 1344 cdf, bI g (ad 6) 14 kf, bI g (ad 7) 14 sf, bI g (ad 9) 96 pl] := hw
            refine lv_iload_n hx hb dX7_cold_76 rfl (lv_at hl 0 rfl) ?_
            refine lv_if_eq (tgt := 84) hx hb dX7_cold_77 (by decide) (fun c77 => ?_) (fun c77 => ?_)
            · exact absurd c77 (by decide)
            · refine lv_iload_n hx hb dX7_cold_80 rfl (lv_at hl 3 rfl) ?_
              refine lv_goto (tgt := 86) hx hb dX7_cold_81 (by decide) ?_
              exact s_iret cf hr hlk (d, pl) hw (by unfold R_cold; rw [if_pos c5, hcl, hK, if_pos c56]) (Nat.le_of_ble_eq_true rfl) (Nat.le_of_ble_eq_true rfl) dX7_cold_86 hQ
        · have hlt : i < 200 := nI_lt_of (n := 200) (by omega) c28 (by omega)
          have hni3 : nightsF ft i d 1 = nI (ni + i) := nightsF_1 hni i
          refine lv_aload_n hx hb dX7_cold_31 rfl (lv_at hl 0 rfl) ?_
          refine lv_iload_n hx hb dX7_cold_32 rfl (lv_at hl 1 rfl) ?_
          refine lv_iconst (v := 3) hx hb dX7_cold_33 (by decide) ?_
          refine s_calli (runV cf (m_of (d := nightsF ft i d) hf j 3 (by omega)) hw [0, 1] (by decide) rfl km_X7_of ki_X7_of q1076 (run_recv (ci := 7) (T := TX7) (N := 39) hw 0 rfl rfl) rfl rfl hl.1 rfl dX7_cold_34) hw [0, 1] (by decide) rfl (fun _ => rfl) (fun r_15 u_13 H locs hp_14 hw => ?_)
          have hw : WD g A s H locs [bO a 7 fs, bI g (ad 0) 60 (nightsF ft i d), bI g (ad 2) 60 d, bI g (ad 5) 1344 cdf, bI g (ad 6) 14 kf, bI g (ad 7) 14 sf, bI g (ad 9) 96 pl] := hw
          subst hp_14
          refine lv_topr (y := coalAt ft d j i) (rfl) ?_
          refine lv_if_le (tgt := 50) hx hb dX7_cold_37 (by decide) (fun c37 => ?_) (fun c37 => ?_)
          · have hK : coldK ft d j = i := by rw [← hls, show 200 - i = (199 - i) + 1 by omega]; exact if_pos c37
            refine lv_aload_n hx hb dX7_cold_50 rfl (lv_at hl 0 rfl) ?_
            refine lv_iload_n hx hb dX7_cold_51 rfl (lv_at hl 1 rfl) ?_
            refine lv_iconst (v := 3) hx hb dX7_cold_52 (by decide) ?_
            refine s_calli (runV cf (m_of (d := nightsF ft i d) hf j 3 (by omega)) hw [0, 1] (by decide) rfl km_X7_of ki_X7_of q1076 (run_recv (ci := 7) (T := TX7) (N := 39) hw 0 rfl rfl) rfl rfl hl.1 rfl dX7_cold_53) hw [0, 1] (by decide) rfl (fun _ => rfl) (fun r_18 u_16 H locs hp_17 hw => ?_)
            have hw : WD g A s H locs [bO a 7 fs, bI g (ad 0) 60 (nightsF ft i d), bI g (ad 2) 60 d, bI g (ad 5) 1344 cdf, bI g (ad 6) 14 kf, bI g (ad 7) 14 sf, bI g (ad 9) 96 pl] := hw
            subst hp_17
            refine lv_topr (y := coalAt ft d j i) (rfl) ?_
            refine lv_if_ne (tgt := 63) hx hb dX7_cold_56 (by decide) (fun c56 => ?_) (fun c56 => ?_)
            · refine lv_iconst (v := 0) hx hb dX7_cold_63 (by decide) ?_
              refine lv_istore_n (lv' := [(3, .int 0), (0, .ref a), (1, .int (nI j)), (2, .int (nI i))]) hx hb dX7_cold_64 rfl hl (by decide) rfl (fun ls hl => ?_)
              refine lv_aload_n hx hb dX7_cold_65 rfl (lv_at hl 1 rfl) ?_
              refine s_get (v := .ref (ad 2)) fb7 cf hw 0 rfl 2 rfl q923 (hf.2 2 rfl) dX7_cold_66 ?_
              refine lv_aload_n hx hb dX7_cold_69 rfl (lv_at hl 1 rfl) ?_
              refine s_get (v := .ref (ad 0)) fb7 cf hw 0 rfl 0 rfl q921 (hf.2 0 rfl) dX7_cold_70 ?_
              refine s_callv (runS cf (m_copies (x := ad 2) (y := ad 0) (f := d) (t := nightsF ft i d)) hw [2, 1] (by decide) rfl km_X7_copies ks_X7_copies q1203 rfl rfl hl.1 rfl dX7_cold_73) hw [2, 1] (by decide) rfl (fun _ => rfl) (fun u_19 H locs hp_20 hw => ?_)
              have hw : WD g A s H locs [bO a 7 fs, bI g (ad 0) 60 d, bI g (ad 2) 60 d, bI g (ad 5) 1344 cdf, bI g (ad 6) 14 kf, bI g (ad 7) 14 sf, bI g (ad 9) 96 pl] := hw
              refine lv_iload_n hx hb dX7_cold_76 rfl (lv_at hl 0 rfl) ?_
              refine lv_if_eq (tgt := 84) hx hb dX7_cold_77 (by decide) (fun c77 => ?_) (fun c77 => ?_)
              · refine lv_ldc hx hb hown (hts _ q1198) dX7_cold_84 ?_
                exact s_iret cf hr hlk (d, pl) hw (by unfold R_cold; rw [if_pos c5, hcl, hK, if_neg c56]) (Nat.le_of_ble_eq_true rfl) (Nat.le_of_ble_eq_true rfl) dX7_cold_86 hQ
              · exact absurd c77 (by decide)
            · refine lv_iconst (v := 1) hx hb dX7_cold_59 (by decide) ?_
              refine lv_goto (tgt := 64) hx hb dX7_cold_60 (by decide) ?_
              refine lv_istore_n (lv' := [(3, .int 1), (0, .ref a), (1, .int (nI j)), (2, .int (nI i))]) hx hb dX7_cold_64 rfl hl (by decide) rfl (fun ls hl => ?_)
              refine lv_aload_n hx hb dX7_cold_65 rfl (lv_at hl 1 rfl) ?_
              refine s_get (v := .ref (ad 2)) fb7 cf hw 0 rfl 2 rfl q923 (hf.2 2 rfl) dX7_cold_66 ?_
              refine lv_aload_n hx hb dX7_cold_69 rfl (lv_at hl 1 rfl) ?_
              refine s_get (v := .ref (ad 0)) fb7 cf hw 0 rfl 0 rfl q921 (hf.2 0 rfl) dX7_cold_70 ?_
              refine s_callv (runS cf (m_copies (x := ad 2) (y := ad 0) (f := d) (t := nightsF ft i d)) hw [2, 1] (by decide) rfl km_X7_copies ks_X7_copies q1203 rfl rfl hl.1 rfl dX7_cold_73) hw [2, 1] (by decide) rfl (fun _ => rfl) (fun u_21 H locs hp_22 hw => ?_)
              have hw : WD g A s H locs [bO a 7 fs, bI g (ad 0) 60 d, bI g (ad 2) 60 d, bI g (ad 5) 1344 cdf, bI g (ad 6) 14 kf, bI g (ad 7) 14 sf, bI g (ad 9) 96 pl] := hw
              refine lv_iload_n hx hb dX7_cold_76 rfl (lv_at hl 0 rfl) ?_
              refine lv_if_eq (tgt := 84) hx hb dX7_cold_77 (by decide) (fun c77 => ?_) (fun c77 => ?_)
              · exact absurd c77 (by decide)
              · refine lv_iload_n hx hb dX7_cold_80 rfl (lv_at hl 3 rfl) ?_
                refine lv_goto (tgt := 86) hx hb dX7_cold_81 (by decide) ?_
                exact s_iret cf hr hlk (d, pl) hw (by unfold R_cold; rw [if_pos c5, hcl, hK, if_pos c56]) (Nat.le_of_ble_eq_true rfl) (Nat.le_of_ble_eq_true rfl) dX7_cold_86 hQ
          · refine lv_aload_n hx hb dX7_cold_40 rfl (lv_at hl 0 rfl) ?_
            refine s_callv (runV cf (m_nightGoes (d := nightsF ft i d) (cdf := cdf) (kf := kf) (sf := sf) (pl := pl) (ft := ft) hf (hT.of (nightsF_lo (by omega) (by omega) (by omega) (by omega) (by omega) (by omega))) (n := n) (by rw [nightsF_lo (by omega) (by omega) (by omega) (by omega) (by omega) (by omega)]; exact hn) hn10 (nightsF_1 hni i) (by omega)) hw [0, 1, 3, 4, 5, 6] (by decide) rfl km_X7_nightGoes ki_X7_nightGoes q1178 (run_recv (ci := 7) (T := TX7) (N := 39) hw 0 rfl rfl) rfl rfl hl.1 rfl dX7_cold_41) hw [0, 1, 3, 4, 5, 6] (by decide) rfl (fun _ => rfl) (fun u_23 H locs hp_24 hw => ?_)
            have hw : WD g A s H locs [bO a 7 fs, bI g (ad 0) 60 (nightF ft (nightsF ft i d)), bI g (ad 2) 60 d, bI g (ad 5) 1344 cdf, bI g (ad 6) 14 kf, bI g (ad 7) 14 sf, bI g (ad 9) 96 u_23] := hw
            refine lv_iinc (v := nI (i + 1)) (lv' := [(2, .int (nI (i + 1))), (0, .ref a), (1, .int (nI j))]) hx hb dX7_cold_44 hl (k := 2) rfl (nI_1 i) (by decide) rfl (fun ls hl => ?_)
            refine lv_goto (tgt := 24) hx hb dX7_cold_47 (by decide) ?_
            exact ih24 (i + 1) u_23 (by omega) (by rw [← hls, show 200 - i = (200 - (i + 1)) + 1 by omega]; exact (if_neg c37).symm) (by omega) _ _ _ hw (lv_sub hl [1, 2, 0] rfl)
    exact L24 201 0 pl (by omega) rfl (by omega) _ _ _ hw (lv_sub hl [1, 2, 0] rfl)
  · have c5 := b01_z c5
    refine lv_ldc hx hb hown (hts _ q1049) dX7_cold_8 ?_
    exact s_iret cf hr hlk (as_, pl) hw (by unfold R_cold; rw [if_neg c5]) (Nat.le_of_ble_eq_true rfl) (Nat.le_of_ble_eq_true rfl) dX7_cold_10 hQ
set_option maxRecDepth 100000 in
set_option maxHeartbeats 4000000 in
theorem m_shut {l : Launch} {g : GG} {a : Nat} {ad : Nat → Nat} {fs : List Value} (hf : MF ad fs) {d as_ cdf kf sf pl : DD} {ft : TXC} (hT : TxOK d kf sf cdf 0 ft) {n : Nat} (hn : d 0 = nI n) (hn10 : n ≤ 10) {ni : Nat} (hni : d 1 = nI ni) (hni9 : ni ≤ 9999) (x : Int32) : Ct l g yX7_shut cX7_shut 4 (Option.some Jvm.ClassFile.FieldType.int) 6 0 0 [.ref a, .int x] [bO a 7 fs, bI g (ad 0) 60 d, bI g (ad 2) 60 as_, bI g (ad 5) 1344 cdf, bI g (ad 6) 14 kf, bI g (ad 7) 14 sf, bI g (ad 9) 96 pl] (QI g (fun r (_ : DD × DD) => r = R_shut ft d x) (fun u => [bO a 7 fs, bI g (ad 0) 60 d, bI g (ad 2) 60 u.1, bI g (ad 5) 1344 cdf, bI g (ad 6) 14 kf, bI g (ad 7) 14 sf, bI g (ad 9) 96 u.2])) := by
  refine Ct.of (by decide) rfl ?_
  intro p e s m args below meth c A H locs ls Qf cf hr hlk hnm hQ hw hl
  have hx := cf.1
  have hb := cf.2.1
  have hml := cf.2.2.1
  have hown := cf.2.2.2.1
  have hts := cf.2.2.2.2
  have hw : WD g A s H locs [bO a 7 fs, bI g (ad 0) 60 d, bI g (ad 2) 60 as_, bI g (ad 5) 1344 cdf, bI g (ad 6) 14 kf, bI g (ad 7) 14 sf, bI g (ad 9) 96 pl] := hw
  have hl : lv_has ls 4 [(0, .ref a), (1, .int x)] := hl
  refine lv_aload_n hx hb dX7_shut_0 rfl (lv_at hl 0 rfl) ?_
  refine lv_iload_n hx hb dX7_shut_1 rfl (lv_at hl 1 rfl) ?_
  refine s_calli (runV cf (m_isHouse (d := d) hf x) hw [0, 1] (by decide) rfl km_X7_isHouse ki_X7_isHouse q1059 (run_recv (ci := 7) (T := TX7) (N := 39) hw 0 rfl rfl) rfl rfl hl.1 rfl dX7_shut_2) hw [0, 1] (by decide) rfl (fun _ => rfl) (fun r_3 u_1 H locs hp_2 hw => ?_)
  have hw : WD g A s H locs [bO a 7 fs, bI g (ad 0) 60 d, bI g (ad 2) 60 as_, bI g (ad 5) 1344 cdf, bI g (ad 6) 14 kf, bI g (ad 7) 14 sf, bI g (ad 9) 96 pl] := hw
  subst hp_2
  refine lv_if_ne (tgt := 11) hx hb dX7_shut_5 (by decide) (fun c5 => ?_) (fun c5 => ?_)
  · have c5 := b01_n c5
    obtain ⟨j, hjn, hxj, hcl⟩ := isH_nat hn hn10 c5
    subst hxj
    refine lv_aload_n hx hb dX7_shut_11 rfl (lv_at hl 0 rfl) ?_
    refine s_get (v := .ref (ad 0)) fb7 cf hw 0 rfl 0 rfl q921 (hf.2 0 rfl) dX7_shut_12 ?_
    refine lv_aload_n hx hb dX7_shut_15 rfl (lv_at hl 0 rfl) ?_
    refine s_get (v := .ref (ad 2)) fb7 cf hw 0 rfl 2 rfl q923 (hf.2 2 rfl) dX7_shut_16 ?_
    refine s_callv (runS cf (m_copies (x := ad 0) (y := ad 2) (f := d) (t := as_)) hw [1, 2] (by decide) rfl km_X7_copies ks_X7_copies q1203 rfl rfl hl.1 rfl dX7_shut_19) hw [1, 2] (by decide) rfl (fun _ => rfl) (fun u_4 H locs hp_5 hw => ?_)
    have hw : WD g A s H locs [bO a 7 fs, bI g (ad 0) 60 d, bI g (ad 2) 60 d, bI g (ad 5) 1344 cdf, bI g (ad 6) 14 kf, bI g (ad 7) 14 sf, bI g (ad 9) 96 pl] := hw
    refine lv_iconst (v := 0) hx hb dX7_shut_22 (by decide) ?_
    refine lv_istore_n (lv' := [(2, .int 0), (0, .ref a), (1, .int (nI j))]) hx hb dX7_shut_23 rfl hl (by decide) rfl (fun ls hl => ?_)
    have L24 : ∀ (fu : Nat) (i : Nat) (pl : DD), (i ≤ 200) → (lst (fun k => slackAt ft d j k ≤ 0) (200 - i) i = shutK ft d j) → (200 < i + fu) → ∀ (H : Heap) (locs : List Loc) (ls : Array Slot), WD g A s H locs [bO a 7 fs, bI g (ad 0) 60 (nightsF ft i d), bI g (ad 2) 60 d, bI g (ad 5) 1344 cdf, bI g (ad 6) 14 kf, bI g (ad 7) 14 sf, bI g (ad 9) 96 pl] → lv_has ls 4 [(0, .ref a), (1, .int (nI j)), (2, .int (nI i))] → W p l e (rmx 6 0 0) s m args below meth c H locs 0 0 Qf (F0 m 24 ls []) := by
      intro fu
      induction fu with
      | zero => intro i pl hi hls hfu; exfalso; omega
      | succ fu ih24 =>
        intro i pl hi hls hfu H locs ls hw hl
        refine lv_iload_n hx hb dX7_shut_24 rfl (lv_at hl 2 rfl) ?_
        refine lv_sipush (v := 200) hx hb dX7_shut_25 (by decide) ?_
        refine lv_icmp_ge (tgt := 49) hx hb dX7_shut_28 (by decide) (fun c28 => ?_) (fun c28 => ?_)
        · have hi3 : i = 200 := by have := nI_le_of (n := 200) (by omega) c28 (by omega); omega
          have hK : shutK ft d j = i := by rw [← hls, hi3]; rfl
          refine lv_aload_n hx hb dX7_shut_49 rfl (lv_at hl 0 rfl) ?_
          refine lv_iload_n hx hb dX7_shut_50 rfl (lv_at hl 1 rfl) ?_
          refine s_calli (runV cf (m_slack (d := nightsF ft i d) (cdf := cdf) (kf := kf) (sf := sf) (pl := pl) (ft := ft) hf (hT.of (nightsF_lo (by omega) (by omega) (by omega) (by omega) (by omega) (by omega))) j (by omega)) hw [0, 1, 3, 4, 5, 6] (by decide) rfl km_X7_slack ki_X7_slack q1064 (run_recv (ci := 7) (T := TX7) (N := 39) hw 0 rfl rfl) rfl rfl hl.1 rfl dX7_shut_51) hw [0, 1, 3, 4, 5, 6] (by decide) rfl (fun _ => rfl) (fun r_8 u_6 H locs hp_7 hw => ?_)
          have hw : WD g A s H locs [bO a 7 fs, bI g (ad 0) 60 (nightsF ft i d), bI g (ad 2) 60 d, bI g (ad 5) 1344 cdf, bI g (ad 6) 14 kf, bI g (ad 7) 14 sf, bI g (ad 9) 96 u_6] := hw
          subst hp_7
          refine lv_topr (y := slackAt ft d j i) (rfl) ?_
          refine lv_if_ne (tgt := 61) hx hb dX7_shut_54 (by decide) (fun c54 => ?_) (fun c54 => ?_)
          · refine lv_iconst (v := 0) hx hb dX7_shut_61 (by decide) ?_
            refine lv_istore_n (lv' := [(3, .int 0), (0, .ref a), (1, .int (nI j)), (2, .int (nI i))]) hx hb dX7_shut_62 rfl hl (by decide) rfl (fun ls hl => ?_)
            refine lv_aload_n hx hb dX7_shut_63 rfl (lv_at hl 1 rfl) ?_
            refine s_get (v := .ref (ad 2)) fb7 cf hw 0 rfl 2 rfl q923 (hf.2 2 rfl) dX7_shut_64 ?_
            refine lv_aload_n hx hb dX7_shut_67 rfl (lv_at hl 1 rfl) ?_
            refine s_get (v := .ref (ad 0)) fb7 cf hw 0 rfl 0 rfl q921 (hf.2 0 rfl) dX7_shut_68 ?_
            refine s_callv (runS cf (m_copies (x := ad 2) (y := ad 0) (f := d) (t := nightsF ft i d)) hw [2, 1] (by decide) rfl km_X7_copies ks_X7_copies q1203 rfl rfl hl.1 rfl dX7_shut_71) hw [2, 1] (by decide) rfl (fun _ => rfl) (fun u_9 H locs hp_10 hw => ?_)
            have hw : WD g A s H locs [bO a 7 fs, bI g (ad 0) 60 d, bI g (ad 2) 60 d, bI g (ad 5) 1344 cdf, bI g (ad 6) 14 kf, bI g (ad 7) 14 sf, bI g (ad 9) 96 u_6] := hw
            refine lv_iload_n hx hb dX7_shut_74 rfl (lv_at hl 0 rfl) ?_
            refine lv_if_eq (tgt := 82) hx hb dX7_shut_75 (by decide) (fun c75 => ?_) (fun c75 => ?_)
            · refine lv_ldc hx hb hown (hts _ q1198) dX7_shut_82 ?_
              exact s_iret cf hr hlk (d, u_6) hw (by unfold R_shut; rw [if_pos c5, hcl, hK, if_neg c54]) (Nat.le_of_ble_eq_true rfl) (Nat.le_of_ble_eq_true rfl) dX7_shut_84 hQ
            · exact absurd c75 (by decide)
          · refine lv_iconst (v := 1) hx hb dX7_shut_57 (by decide) ?_
            refine lv_goto (tgt := 62) hx hb dX7_shut_58 (by decide) ?_
            refine lv_istore_n (lv' := [(3, .int 1), (0, .ref a), (1, .int (nI j)), (2, .int (nI i))]) hx hb dX7_shut_62 rfl hl (by decide) rfl (fun ls hl => ?_)
            refine lv_aload_n hx hb dX7_shut_63 rfl (lv_at hl 1 rfl) ?_
            refine s_get (v := .ref (ad 2)) fb7 cf hw 0 rfl 2 rfl q923 (hf.2 2 rfl) dX7_shut_64 ?_
            refine lv_aload_n hx hb dX7_shut_67 rfl (lv_at hl 1 rfl) ?_
            refine s_get (v := .ref (ad 0)) fb7 cf hw 0 rfl 0 rfl q921 (hf.2 0 rfl) dX7_shut_68 ?_
            refine s_callv (runS cf (m_copies (x := ad 2) (y := ad 0) (f := d) (t := nightsF ft i d)) hw [2, 1] (by decide) rfl km_X7_copies ks_X7_copies q1203 rfl rfl hl.1 rfl dX7_shut_71) hw [2, 1] (by decide) rfl (fun _ => rfl) (fun u_11 H locs hp_12 hw => ?_)
            have hw : WD g A s H locs [bO a 7 fs, bI g (ad 0) 60 d, bI g (ad 2) 60 d, bI g (ad 5) 1344 cdf, bI g (ad 6) 14 kf, bI g (ad 7) 14 sf, bI g (ad 9) 96 u_6] := hw
            refine lv_iload_n hx hb dX7_shut_74 rfl (lv_at hl 0 rfl) ?_
            refine lv_if_eq (tgt := 82) hx hb dX7_shut_75 (by decide) (fun c75 => ?_) (fun c75 => ?_)
            · exact absurd c75 (by decide)
            · refine lv_iload_n hx hb dX7_shut_78 rfl (lv_at hl 3 rfl) ?_
              refine lv_goto (tgt := 84) hx hb dX7_shut_79 (by decide) ?_
              exact s_iret cf hr hlk (d, u_6) hw (by unfold R_shut; rw [if_pos c5, hcl, hK, if_pos c54]) (Nat.le_of_ble_eq_true rfl) (Nat.le_of_ble_eq_true rfl) dX7_shut_84 hQ
        · have hlt : i < 200 := nI_lt_of (n := 200) (by omega) c28 (by omega)
          have hni3 : nightsF ft i d 1 = nI (ni + i) := nightsF_1 hni i
          refine lv_aload_n hx hb dX7_shut_31 rfl (lv_at hl 0 rfl) ?_
          refine lv_iload_n hx hb dX7_shut_32 rfl (lv_at hl 1 rfl) ?_
          refine s_calli (runV cf (m_slack (d := nightsF ft i d) (cdf := cdf) (kf := kf) (sf := sf) (pl := pl) (ft := ft) hf (hT.of (nightsF_lo (by omega) (by omega) (by omega) (by omega) (by omega) (by omega))) j (by omega)) hw [0, 1, 3, 4, 5, 6] (by decide) rfl km_X7_slack ki_X7_slack q1064 (run_recv (ci := 7) (T := TX7) (N := 39) hw 0 rfl rfl) rfl rfl hl.1 rfl dX7_shut_33) hw [0, 1, 3, 4, 5, 6] (by decide) rfl (fun _ => rfl) (fun r_15 u_13 H locs hp_14 hw => ?_)
          have hw : WD g A s H locs [bO a 7 fs, bI g (ad 0) 60 (nightsF ft i d), bI g (ad 2) 60 d, bI g (ad 5) 1344 cdf, bI g (ad 6) 14 kf, bI g (ad 7) 14 sf, bI g (ad 9) 96 u_13] := hw
          subst hp_14
          refine lv_topr (y := slackAt ft d j i) (rfl) ?_
          refine lv_if_le (tgt := 49) hx hb dX7_shut_36 (by decide) (fun c36 => ?_) (fun c36 => ?_)
          · have hK : shutK ft d j = i := by rw [← hls, show 200 - i = (199 - i) + 1 by omega]; exact if_pos c36
            refine lv_aload_n hx hb dX7_shut_49 rfl (lv_at hl 0 rfl) ?_
            refine lv_iload_n hx hb dX7_shut_50 rfl (lv_at hl 1 rfl) ?_
            refine s_calli (runV cf (m_slack (d := nightsF ft i d) (cdf := cdf) (kf := kf) (sf := sf) (pl := u_13) (ft := ft) hf (hT.of (nightsF_lo (by omega) (by omega) (by omega) (by omega) (by omega) (by omega))) j (by omega)) hw [0, 1, 3, 4, 5, 6] (by decide) rfl km_X7_slack ki_X7_slack q1064 (run_recv (ci := 7) (T := TX7) (N := 39) hw 0 rfl rfl) rfl rfl hl.1 rfl dX7_shut_51) hw [0, 1, 3, 4, 5, 6] (by decide) rfl (fun _ => rfl) (fun r_18 u_16 H locs hp_17 hw => ?_)
            have hw : WD g A s H locs [bO a 7 fs, bI g (ad 0) 60 (nightsF ft i d), bI g (ad 2) 60 d, bI g (ad 5) 1344 cdf, bI g (ad 6) 14 kf, bI g (ad 7) 14 sf, bI g (ad 9) 96 u_16] := hw
            subst hp_17
            refine lv_topr (y := slackAt ft d j i) (rfl) ?_
            refine lv_if_ne (tgt := 61) hx hb dX7_shut_54 (by decide) (fun c54 => ?_) (fun c54 => ?_)
            · refine lv_iconst (v := 0) hx hb dX7_shut_61 (by decide) ?_
              refine lv_istore_n (lv' := [(3, .int 0), (0, .ref a), (1, .int (nI j)), (2, .int (nI i))]) hx hb dX7_shut_62 rfl hl (by decide) rfl (fun ls hl => ?_)
              refine lv_aload_n hx hb dX7_shut_63 rfl (lv_at hl 1 rfl) ?_
              refine s_get (v := .ref (ad 2)) fb7 cf hw 0 rfl 2 rfl q923 (hf.2 2 rfl) dX7_shut_64 ?_
              refine lv_aload_n hx hb dX7_shut_67 rfl (lv_at hl 1 rfl) ?_
              refine s_get (v := .ref (ad 0)) fb7 cf hw 0 rfl 0 rfl q921 (hf.2 0 rfl) dX7_shut_68 ?_
              refine s_callv (runS cf (m_copies (x := ad 2) (y := ad 0) (f := d) (t := nightsF ft i d)) hw [2, 1] (by decide) rfl km_X7_copies ks_X7_copies q1203 rfl rfl hl.1 rfl dX7_shut_71) hw [2, 1] (by decide) rfl (fun _ => rfl) (fun u_19 H locs hp_20 hw => ?_)
              have hw : WD g A s H locs [bO a 7 fs, bI g (ad 0) 60 d, bI g (ad 2) 60 d, bI g (ad 5) 1344 cdf, bI g (ad 6) 14 kf, bI g (ad 7) 14 sf, bI g (ad 9) 96 u_16] := hw
              refine lv_iload_n hx hb dX7_shut_74 rfl (lv_at hl 0 rfl) ?_
              refine lv_if_eq (tgt := 82) hx hb dX7_shut_75 (by decide) (fun c75 => ?_) (fun c75 => ?_)
              · refine lv_ldc hx hb hown (hts _ q1198) dX7_shut_82 ?_
                exact s_iret cf hr hlk (d, u_16) hw (by unfold R_shut; rw [if_pos c5, hcl, hK, if_neg c54]) (Nat.le_of_ble_eq_true rfl) (Nat.le_of_ble_eq_true rfl) dX7_shut_84 hQ
              · exact absurd c75 (by decide)
            · refine lv_iconst (v := 1) hx hb dX7_shut_57 (by decide) ?_
              refine lv_goto (tgt := 62) hx hb dX7_shut_58 (by decide) ?_
              refine lv_istore_n (lv' := [(3, .int 1), (0, .ref a), (1, .int (nI j)), (2, .int (nI i))]) hx hb dX7_shut_62 rfl hl (by decide) rfl (fun ls hl => ?_)
              refine lv_aload_n hx hb dX7_shut_63 rfl (lv_at hl 1 rfl) ?_
              refine s_get (v := .ref (ad 2)) fb7 cf hw 0 rfl 2 rfl q923 (hf.2 2 rfl) dX7_shut_64 ?_
              refine lv_aload_n hx hb dX7_shut_67 rfl (lv_at hl 1 rfl) ?_
              refine s_get (v := .ref (ad 0)) fb7 cf hw 0 rfl 0 rfl q921 (hf.2 0 rfl) dX7_shut_68 ?_
              refine s_callv (runS cf (m_copies (x := ad 2) (y := ad 0) (f := d) (t := nightsF ft i d)) hw [2, 1] (by decide) rfl km_X7_copies ks_X7_copies q1203 rfl rfl hl.1 rfl dX7_shut_71) hw [2, 1] (by decide) rfl (fun _ => rfl) (fun u_21 H locs hp_22 hw => ?_)
              have hw : WD g A s H locs [bO a 7 fs, bI g (ad 0) 60 d, bI g (ad 2) 60 d, bI g (ad 5) 1344 cdf, bI g (ad 6) 14 kf, bI g (ad 7) 14 sf, bI g (ad 9) 96 u_16] := hw
              refine lv_iload_n hx hb dX7_shut_74 rfl (lv_at hl 0 rfl) ?_
              refine lv_if_eq (tgt := 82) hx hb dX7_shut_75 (by decide) (fun c75 => ?_) (fun c75 => ?_)
              · exact absurd c75 (by decide)
              · refine lv_iload_n hx hb dX7_shut_78 rfl (lv_at hl 3 rfl) ?_
                refine lv_goto (tgt := 84) hx hb dX7_shut_79 (by decide) ?_
                exact s_iret cf hr hlk (d, u_16) hw (by unfold R_shut; rw [if_pos c5, hcl, hK, if_pos c54]) (Nat.le_of_ble_eq_true rfl) (Nat.le_of_ble_eq_true rfl) dX7_shut_84 hQ
          · refine lv_aload_n hx hb dX7_shut_39 rfl (lv_at hl 0 rfl) ?_
            refine s_callv (runV cf (m_nightGoes (d := nightsF ft i d) (cdf := cdf) (kf := kf) (sf := sf) (pl := u_13) (ft := ft) hf (hT.of (nightsF_lo (by omega) (by omega) (by omega) (by omega) (by omega) (by omega))) (n := n) (by rw [nightsF_lo (by omega) (by omega) (by omega) (by omega) (by omega) (by omega)]; exact hn) hn10 (nightsF_1 hni i) (by omega)) hw [0, 1, 3, 4, 5, 6] (by decide) rfl km_X7_nightGoes ki_X7_nightGoes q1178 (run_recv (ci := 7) (T := TX7) (N := 39) hw 0 rfl rfl) rfl rfl hl.1 rfl dX7_shut_40) hw [0, 1, 3, 4, 5, 6] (by decide) rfl (fun _ => rfl) (fun u_23 H locs hp_24 hw => ?_)
            have hw : WD g A s H locs [bO a 7 fs, bI g (ad 0) 60 (nightF ft (nightsF ft i d)), bI g (ad 2) 60 d, bI g (ad 5) 1344 cdf, bI g (ad 6) 14 kf, bI g (ad 7) 14 sf, bI g (ad 9) 96 u_23] := hw
            refine lv_iinc (v := nI (i + 1)) (lv' := [(2, .int (nI (i + 1))), (0, .ref a), (1, .int (nI j))]) hx hb dX7_shut_43 hl (k := 2) rfl (nI_1 i) (by decide) rfl (fun ls hl => ?_)
            refine lv_goto (tgt := 24) hx hb dX7_shut_46 (by decide) ?_
            exact ih24 (i + 1) u_23 (by omega) (by rw [← hls, show 200 - i = (200 - (i + 1)) + 1 by omega]; exact (if_neg c36).symm) (by omega) _ _ _ hw (lv_sub hl [1, 2, 0] rfl)
    exact L24 201 0 pl (by omega) rfl (by omega) _ _ _ hw (lv_sub hl [1, 2, 0] rfl)
  · have c5 := b01_z c5
    refine lv_ldc hx hb hown (hts _ q1049) dX7_shut_8 ?_
    exact s_iret cf hr hlk (as_, pl) hw (by unfold R_shut; rw [if_neg c5]) (Nat.le_of_ble_eq_true rfl) (Nat.le_of_ble_eq_true rfl) dX7_shut_10 hQ
