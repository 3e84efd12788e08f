set_option maxRecDepth 100000 in
set_option maxHeartbeats 4000000 in
theorem c_cold {l : Launch} {g : GG} {t : Nat} {lad ad : Nat → Nat} {d cn : DD} {nm st_ : DD} {tr : Nat → Option Nat} {txb : va_W} {ft : TXC} (hF : FitAt g tr txb (cn 0) ft) (hFo : okF ft) (hI : InvH d) {n : Nat} (hn : d 0 = nI n) (hn10 : n ≤ 10) {ni : Nat} (hni : d 1 = nI ni) (h9 : ni ≤ 9999) {o t2 t3 : Nat} {ch : Nat → Nat} {kp tp wt : Int32} {ad2 : Nat → Nat} {d2 cn2 : DD} (x : Int32) : Ct l g yX6_cold cX6_cold 3 (Option.some Jvm.ClassFile.FieldType.int) 6 0 0 [.ref o, .int x] [bO t 4 (tF (lad 0) ad (d 0) (d 9) (d 5) (d 6) (d 7) (d 1) (d 8)), bI g (ad 1) 10 (col d 0), bI g (ad 2) 10 (col d 1), bI g (ad 3) 10 (col d 2), bI g (ad 4) 10 (col d 3), bI g (ad 5) 10 (col d 4), bI g (ad 6) 3 (rulF d), bI g (ad 7) 3 cn, bO (lad 0) 0 ([.ref (lad 1), .ref (lad 2), .ref (lad 3)]), bR g 4 (lad 1) 14 tr, bI g (lad 2) 6 nm, bI g (lad 3) 96 st_, txb, bO t2 4 (tF (lad 0) ad2 (d2 0) (d2 9) (d2 5) (d2 6) (d2 7) (d2 1) (d2 8)), bI g (ad2 1) 10 (col d2 0), bI g (ad2 2) 10 (col d2 1), bI g (ad2 3) 10 (col d2 2), bI g (ad2 4) 10 (col d2 3), bI g (ad2 5) 10 (col d2 4), bI g (ad2 6) 3 (rulF d2), bI g (ad2 7) 3 cn2, bO o 6 (cF (lad 0) t t3 t2 ch kp tp wt)] (QI g (fun r (_ : DD × DD × DD × DD) => r = R_cold ft d x) (fun u => [bO t 4 (tF (lad 0) ad (d 0) (d 9) (d 5) (d 6) (d 7) (d 1) (d 8)), bI g (ad 1) 10 (col d 0), bI g (ad 2) 10 (col d 1), bI g (ad 3) 10 (col d 2), bI g (ad 4) 10 (col d 3), bI g (ad 5) 10 (col d 4), bI g (ad 6) 3 (rulF d), bI g (ad 7) 3 cn, bO (lad 0) 0 ([.ref (lad 1), .ref (lad 2), .ref (lad 3)]), bR g 4 (lad 1) 14 tr, bI g (lad 2) 6 u.1, bI g (lad 3) 96 u.2.1, txb, bO t2 4 (tF (lad 0) ad2 (u.2.2.1 0) (u.2.2.1 9) (u.2.2.1 5) (u.2.2.1 6) (u.2.2.1 7) (u.2.2.1 1) (u.2.2.1 8)), bI g (ad2 1) 10 (col u.2.2.1 0), bI g (ad2 2) 10 (col u.2.2.1 1), bI g (ad2 3) 10 (col u.2.2.1 2), bI g (ad2 4) 10 (col u.2.2.1 3), bI g (ad2 5) 10 (col u.2.2.1 4), bI g (ad2 6) 3 (rulF u.2.2.1), bI g (ad2 7) 3 u.2.2.2, bO o 6 (cF (lad 0) t t3 t2 ch kp tp wt)])) := by
  refine Ct.of (by decide) rfl ?_
  intro p e s m args below meth c A H locs ls Qf cf hr hlk hnm hQ hw hl
  have hx := cf.1
  have hb := cf.2.1
  have hml := cf.2.2.1
  have hown := cf.2.2.2.1
  have hts := cf.2.2.2.2
  have hw : WD g A s H locs [bO t 4 (tF (lad 0) ad (d 0) (d 9) (d 5) (d 6) (d 7) (d 1) (d 8)), bI g (ad 1) 10 (col d 0), bI g (ad 2) 10 (col d 1), bI g (ad 3) 10 (col d 2), bI g (ad 4) 10 (col d 3), bI g (ad 5) 10 (col d 4), bI g (ad 6) 3 (rulF d), bI g (ad 7) 3 cn, bO (lad 0) 0 ([.ref (lad 1), .ref (lad 2), .ref (lad 3)]), bR g 4 (lad 1) 14 tr, bI g (lad 2) 6 nm, bI g (lad 3) 96 st_, txb, bO t2 4 (tF (lad 0) ad2 (d2 0) (d2 9) (d2 5) (d2 6) (d2 7) (d2 1) (d2 8)), bI g (ad2 1) 10 (col d2 0), bI g (ad2 2) 10 (col d2 1), bI g (ad2 3) 10 (col d2 2), bI g (ad2 4) 10 (col d2 3), bI g (ad2 5) 10 (col d2 4), bI g (ad2 6) 3 (rulF d2), bI g (ad2 7) 3 cn2, bO o 6 (cF (lad 0) t t3 t2 ch kp tp wt)] := hw
  have hl : lv_has ls 3 [(0, .ref o), (1, .int x)] := hl
  refine lv_aload_n hx hb dX6_cold_0 rfl (lv_at hl 0 rfl) ?_
  refine s_get (v := .ref t) fb6 cf hw 21 rfl 1 rfl q307 rfl dX6_cold_1 ?_
  refine lv_iload_n hx hb dX6_cold_4 rfl (lv_at hl 1 rfl) ?_
  refine s_calli (runVN cf (x_has (cn := cn) (t := t) (lad := lad) (ad := ad) (d := d) (n := n) hn hn10 x) hw [0] (by decide) rfl km_X4_has ki_X4_has q367 (run_recv (ci := 4) (T := TX4) (N := 15) hw 0 rfl rfl) rfl rfl hl.1 rfl dX6_cold_5) hw [0] (by decide) rfl (fun _ => rfl) (fun r_3 u_1 H locs hp_2 hw => ?_)
  have hw : WD g A s H locs [bO t 4 (tF (lad 0) ad (d 0) (d 9) (d 5) (d 6) (d 7) (d 1) (d 8)), bI g (ad 1) 10 (col d 0), bI g (ad 2) 10 (col d 1), bI g (ad 3) 10 (col d 2), bI g (ad 4) 10 (col d 3), bI g (ad 5) 10 (col d 4), bI g (ad 6) 3 (rulF d), bI g (ad 7) 3 cn, bO (lad 0) 0 ([.ref (lad 1), .ref (lad 2), .ref (lad 3)]), bR g 4 (lad 1) 14 tr, bI g (lad 2) 6 nm, bI g (lad 3) 96 st_, txb, bO t2 4 (tF (lad 0) ad2 (d2 0) (d2 9) (d2 5) (d2 6) (d2 7) (d2 1) (d2 8)), bI g (ad2 1) 10 (col d2 0), bI g (ad2 2) 10 (col d2 1), bI g (ad2 3) 10 (col d2 2), bI g (ad2 4) 10 (col d2 3), bI g (ad2 5) 10 (col d2 4), bI g (ad2 6) 3 (rulF d2), bI g (ad2 7) 3 cn2, bO o 6 (cF (lad 0) t t3 t2 ch kp tp wt)] := hw
  subst hp_2
  refine lv_if_ne (tgt := 14) hx hb dX6_cold_8 (by decide) (fun c8 => ?_) (fun c8 => ?_)
  · have c8 := b01_n c8
    obtain ⟨j, hjn, hxj, hcl⟩ := isH_nat hn hn10 c8
    subst hxj
    refine lv_aload_n hx hb dX6_cold_14 rfl (lv_at hl 0 rfl) ?_
    refine s_get (v := .ref t2) fb6 cf hw 21 rfl 3 rfl q309 rfl dX6_cold_15 ?_
    refine lv_aload_n hx hb dX6_cold_18 rfl (lv_at hl 0 rfl) ?_
    refine s_get (v := .ref t) fb6 cf hw 21 rfl 1 rfl q307 rfl dX6_cold_19 ?_
    refine s_callv (runVN cf (x_become (t := t2) (lad := lad) (ad := ad2) (d := d2) (cn := cn2) (t2 := t) (ad2 := ad) (d2 := d) (cn2 := cn)) hw [13, 14, 15, 16, 17, 18, 19, 20, 0, 1, 2, 3, 4, 5, 6, 7] (by decide) rfl km_X4_become ki_X4_become q541 (run_recv (ci := 4) (T := TX4) (N := 15) hw 13 rfl rfl) rfl rfl hl.1 rfl dX6_cold_22) hw [13, 14, 15, 16, 17, 18, 19, 20, 0, 1, 2, 3, 4, 5, 6, 7] (by decide) rfl (fun _ => rfl) (fun u_4 H locs hp_5 hw => ?_)
    have hw : WD g A s H locs [bO t 4 (tF (lad 0) ad (d 0) (d 9) (d 5) (d 6) (d 7) (d 1) (d 8)), bI g (ad 1) 10 (col d 0), bI g (ad 2) 10 (col d 1), bI g (ad 3) 10 (col d 2), bI g (ad 4) 10 (col d 3), bI g (ad 5) 10 (col d 4), bI g (ad 6) 3 (rulF d), bI g (ad 7) 3 cn, bO (lad 0) 0 ([.ref (lad 1), .ref (lad 2), .ref (lad 3)]), bR g 4 (lad 1) 14 tr, bI g (lad 2) 6 nm, bI g (lad 3) 96 st_, txb, bO t2 4 (tF (lad 0) ad2 (d 0) (d 9) (d 5) (d 6) (d 7) (d 1) (d 8)), bI g (ad2 1) 10 (col d 0), bI g (ad2 2) 10 (col d 1), bI g (ad2 3) 10 (col d 2), bI g (ad2 4) 10 (col d 3), bI g (ad2 5) 10 (col d 4), bI g (ad2 6) 3 (rulF d), bI g (ad2 7) 3 cn, bO o 6 (cF (lad 0) t t3 t2 ch kp tp wt)] := hw
    refine lv_iconst (v := 0) hx hb dX6_cold_25 (by decide) ?_
    refine lv_istore_n (lv' := [(2, .int 0), (0, .ref o), (1, .int (nI j))]) hx hb dX6_cold_26 rfl hl (by decide) rfl (fun ls hl => ?_)
    have L27 : ∀ (fu : Nat) (k : Nat) (nm st_ : DD), (k ≤ 200) → (200 < k + fu) → (coldK ft d j = lst (fun k => coalAt ft d j k ≤ 0) (200 - k) k) → ∀ (H : Heap) (locs : List Loc) (ls : Array Slot), WD g A s H locs [bO t 4 (tF (lad 0) ad (d 0) (d 9) (d 5) (d 6) (d 7) (d 1) (d 8)), bI g (ad 1) 10 (col d 0), bI g (ad 2) 10 (col d 1), bI g (ad 3) 10 (col d 2), bI g (ad 4) 10 (col d 3), bI g (ad 5) 10 (col d 4), bI g (ad 6) 3 (rulF d), bI g (ad 7) 3 cn, bO (lad 0) 0 ([.ref (lad 1), .ref (lad 2), .ref (lad 3)]), bR g 4 (lad 1) 14 tr, bI g (lad 2) 6 nm, bI g (lad 3) 96 st_, txb, bO t2 4 (tF (lad 0) ad2 ((nightsF ft k d) 0) ((nightsF ft k d) 9) ((nightsF ft k d) 5) ((nightsF ft k d) 6) ((nightsF ft k d) 7) ((nightsF ft k d) 1) ((nightsF ft k d) 8)), bI g (ad2 1) 10 (col (nightsF ft k d) 0), bI g (ad2 2) 10 (col (nightsF ft k d) 1), bI g (ad2 3) 10 (col (nightsF ft k d) 2), bI g (ad2 4) 10 (col (nightsF ft k d) 3), bI g (ad2 5) 10 (col (nightsF ft k d) 4), bI g (ad2 6) 3 (rulF (nightsF ft k d)), bI g (ad2 7) 3 cn, bO o 6 (cF (lad 0) t t3 t2 ch kp tp wt)] → lv_has ls 3 [(0, .ref o), (1, .int (nI j)), (2, .int (nI k))] → W p l e (rmx 6 0 0) s m args below meth c H locs 0 0 Qf (F0 m 27 ls []) := by
      intro fu
      induction fu with
      | zero => intro k nm st_ hk hfu hls; exfalso; omega
      | succ fu ih27 =>
        intro k nm st_ hk hfu hls H locs ls hw hl
        have hIk : InvH (nightsF ft k d) := inv_nights hI
        have b3 : 0 ≤ nightsF ft k d (10 + 5 * j + 3) ∧ _ := inv_at hIk j 3 (by omega)
        refine lv_iload_n hx hb dX6_cold_27 rfl (lv_at hl 2 rfl) ?_
        refine lv_sipush (v := 200) hx hb dX6_cold_28 (by decide) ?_
        refine lv_icmp_ge (tgt := 60) hx hb dX6_cold_31 (by decide) (fun c31 => ?_) (fun c31 => ?_)
        · have hk2 : ¬ k < 200 := by have := nI_le_of (n := 200) (by omega) c31 (by omega); omega
          have hK : coldK ft d j = k := hls.trans (lst_end hk2)
          refine lv_aload_n hx hb dX6_cold_60 rfl (lv_at hl 0 rfl) ?_
          refine s_get (v := .ref t2) fb6 cf hw 21 rfl 3 rfl q309 rfl dX6_cold_61 ?_
          refine s_getN (v := .ref (ad2 4)) fb4 cf hw 13 rfl 4 rfl q165 rfl dX6_cold_64 ?_
          refine lv_iload_n hx hb dX6_cold_67 rfl (lv_at hl 1 rfl) ?_
          refine s_iald (j := j) cf hw 17 rfl (rfl) (by omega) rfl dX6_cold_68 ?_
          refine lv_topr (y := (nightsF ft k d) (10 + 5 * j + 3)) (rfl) ?_
          refine lv_if_ne (tgt := 90) hx hb dX6_cold_69 (by decide) (fun c69 => ?_) (fun c69 => ?_)
          · refine lv_ldc hx hb hown (hts _ q552) dX6_cold_90 ?_
            exact s_iret cf hr hlk (nm, st_, (nightsF ft k d), cn) hw (by unfold R_cold; rw [if_pos c8, hcl, hK, if_neg (show ¬ coalAt ft d j k = 0 from c69)]) (Nat.le_of_ble_eq_true rfl) (Nat.le_of_ble_eq_true rfl) dX6_cold_92 hQ
          · refine lv_aload_n hx hb dX6_cold_72 rfl (lv_at hl 0 rfl) ?_
            refine s_get (v := .ref t2) fb6 cf hw 21 rfl 3 rfl q309 rfl dX6_cold_73 ?_
            refine s_getN (v := .int ((nightsF ft k d) 1)) fb4 cf hw 13 rfl 13 rfl q183 rfl dX6_cold_76 ?_
            refine lv_aload_n hx hb dX6_cold_79 rfl (lv_at hl 0 rfl) ?_
            refine s_get (v := .ref t) fb6 cf hw 21 rfl 1 rfl q307 rfl dX6_cold_80 ?_
            refine s_getN (v := .int (d 1)) fb4 cf hw 0 rfl 13 rfl q183 rfl dX6_cold_83 ?_
            refine lv_isub hx hb dX6_cold_86 ?_
            refine lv_goto (tgt := 92) hx hb dX6_cold_87 (by decide) ?_
            exact s_iret cf hr hlk (nm, st_, (nightsF ft k d), cn) hw (by unfold R_cold; rw [if_pos c8, hcl, hK, if_pos (show coalAt ft d j k = 0 from c69), nightsF_1 hni, hni, pk_sub (by omega)]; congr 1; omega) (Nat.le_of_ble_eq_true rfl) (Nat.le_of_ble_eq_true rfl) dX6_cold_92 hQ
        · have hlt : k < 200 := nI_lt_of (n := 200) (by omega) c31 (by omega)
          refine lv_aload_n hx hb dX6_cold_34 rfl (lv_at hl 0 rfl) ?_
          refine s_get (v := .ref t2) fb6 cf hw 21 rfl 3 rfl q309 rfl dX6_cold_35 ?_
          refine s_getN (v := .ref (ad2 4)) fb4 cf hw 13 rfl 4 rfl q165 rfl dX6_cold_38 ?_
          refine lv_iload_n hx hb dX6_cold_41 rfl (lv_at hl 1 rfl) ?_
          refine s_iald (j := j) cf hw 17 rfl (rfl) (by omega) rfl dX6_cold_42 ?_
          refine lv_topr (y := (nightsF ft k d) (10 + 5 * j + 3)) (rfl) ?_
          refine lv_if_eq (tgt := 60) hx hb dX6_cold_43 (by decide) (fun c43 => ?_) (fun c43 => ?_)
          · have hK : coldK ft d j = k := hls.trans (lst_stop hlt (show nightsF ft k d (10 + 5 * j + 3) ≤ 0 by rw [c43]; decide))
            refine lv_aload_n hx hb dX6_cold_60 rfl (lv_at hl 0 rfl) ?_
            refine s_get (v := .ref t2) fb6 cf hw 21 rfl 3 rfl q309 rfl dX6_cold_61 ?_
            refine s_getN (v := .ref (ad2 4)) fb4 cf hw 13 rfl 4 rfl q165 rfl dX6_cold_64 ?_
            refine lv_iload_n hx hb dX6_cold_67 rfl (lv_at hl 1 rfl) ?_
            refine s_iald (j := j) cf hw 17 rfl (rfl) (by omega) rfl dX6_cold_68 ?_
            refine lv_topr (y := (nightsF ft k d) (10 + 5 * j + 3)) (rfl) ?_
            refine lv_if_ne (tgt := 90) hx hb dX6_cold_69 (by decide) (fun c69 => ?_) (fun c69 => ?_)
            · refine lv_ldc hx hb hown (hts _ q552) dX6_cold_90 ?_
              exact s_iret cf hr hlk (nm, st_, (nightsF ft k d), cn) hw (by unfold R_cold; rw [if_pos c8, hcl, hK, if_neg (show ¬ coalAt ft d j k = 0 from c69)]) (Nat.le_of_ble_eq_true rfl) (Nat.le_of_ble_eq_true rfl) dX6_cold_92 hQ
            · refine lv_aload_n hx hb dX6_cold_72 rfl (lv_at hl 0 rfl) ?_
              refine s_get (v := .ref t2) fb6 cf hw 21 rfl 3 rfl q309 rfl dX6_cold_73 ?_
              refine s_getN (v := .int ((nightsF ft k d) 1)) fb4 cf hw 13 rfl 13 rfl q183 rfl dX6_cold_76 ?_
              refine lv_aload_n hx hb dX6_cold_79 rfl (lv_at hl 0 rfl) ?_
              refine s_get (v := .ref t) fb6 cf hw 21 rfl 1 rfl q307 rfl dX6_cold_80 ?_
              refine s_getN (v := .int (d 1)) fb4 cf hw 0 rfl 13 rfl q183 rfl dX6_cold_83 ?_
              refine lv_isub hx hb dX6_cold_86 ?_
              refine lv_goto (tgt := 92) hx hb dX6_cold_87 (by decide) ?_
              exact s_iret cf hr hlk (nm, st_, (nightsF ft k d), cn) hw (by unfold R_cold; rw [if_pos c8, hcl, hK, if_pos (show coalAt ft d j k = 0 from c69), nightsF_1 hni, hni, pk_sub (by omega)]; congr 1; omega) (Nat.le_of_ble_eq_true rfl) (Nat.le_of_ble_eq_true rfl) dX6_cold_92 hQ
          · have hls2 := hls.trans (lst_step hlt (show ¬ nightsF ft k d (10 + 5 * j + 3) ≤ 0 by have := b3.1; grind))
            refine lv_aload_n hx hb dX6_cold_46 rfl (lv_at hl 0 rfl) ?_
            refine s_get (v := .ref t2) fb6 cf hw 21 rfl 3 rfl q309 rfl dX6_cold_47 ?_
            refine lv_iconst (v := 1) hx hb dX6_cold_50 (by decide) ?_
            refine s_callv (runVN cf (x_pass (t := t2) (lad := lad) (ad := ad2) (d := (nightsF ft k d)) (cn := cn) (nm := nm) (st_ := st_) (tr := tr) (txb := txb) (ft := ft) hF hFo hIk (nightsF_1 (ft := ft) hni k) 1 (by omega)) hw [13, 14, 15, 16, 17, 18, 19, 20, 8, 9, 10, 11, 12] (by decide) rfl km_X4_pass ki_X4_pass q499 (run_recv (ci := 4) (T := TX4) (N := 15) hw 13 rfl rfl) rfl rfl hl.1 rfl dX6_cold_51) hw [13, 14, 15, 16, 17, 18, 19, 20, 8, 9, 10, 11, 12] (by decide) rfl (fun _ => rfl) (fun u_6 H locs hp_7 hw => ?_)
            have hw : WD g A s H locs [bO t 4 (tF (lad 0) ad (d 0) (d 9) (d 5) (d 6) (d 7) (d 1) (d 8)), bI g (ad 1) 10 (col d 0), bI g (ad 2) 10 (col d 1), bI g (ad 3) 10 (col d 2), bI g (ad 4) 10 (col d 3), bI g (ad 5) 10 (col d 4), bI g (ad 6) 3 (rulF d), bI g (ad 7) 3 cn, bO (lad 0) 0 ([.ref (lad 1), .ref (lad 2), .ref (lad 3)]), bR g 4 (lad 1) 14 tr, bI g (lad 2) 6 u_6.1, bI g (lad 3) 96 u_6.2, txb, bO t2 4 (tF (lad 0) ad2 ((nightsF ft 1 (nightsF ft k d)) 0) ((nightsF ft 1 (nightsF ft k d)) 9) ((nightsF ft 1 (nightsF ft k d)) 5) ((nightsF ft 1 (nightsF ft k d)) 6) ((nightsF ft 1 (nightsF ft k d)) 7) ((nightsF ft 1 (nightsF ft k d)) 1) ((nightsF ft 1 (nightsF ft k d)) 8)), bI g (ad2 1) 10 (col (nightsF ft 1 (nightsF ft k d)) 0), bI g (ad2 2) 10 (col (nightsF ft 1 (nightsF ft k d)) 1), bI g (ad2 3) 10 (col (nightsF ft 1 (nightsF ft k d)) 2), bI g (ad2 4) 10 (col (nightsF ft 1 (nightsF ft k d)) 3), bI g (ad2 5) 10 (col (nightsF ft 1 (nightsF ft k d)) 4), bI g (ad2 6) 3 (rulF (nightsF ft 1 (nightsF ft k d))), bI g (ad2 7) 3 cn, bO o 6 (cF (lad 0) t t3 t2 ch kp tp wt)] := hw
            have he : nightsF ft 1 (nightsF ft k d) = nightsF ft (k + 1) d := nights_1s
            have hw : WD g A s H locs [bO t 4 (tF (lad 0) ad (d 0) (d 9) (d 5) (d 6) (d 7) (d 1) (d 8)), bI g (ad 1) 10 (col d 0), bI g (ad 2) 10 (col d 1), bI g (ad 3) 10 (col d 2), bI g (ad 4) 10 (col d 3), bI g (ad 5) 10 (col d 4), bI g (ad 6) 3 (rulF d), bI g (ad 7) 3 cn, bO (lad 0) 0 ([.ref (lad 1), .ref (lad 2), .ref (lad 3)]), bR g 4 (lad 1) 14 tr, bI g (lad 2) 6 u_6.1, bI g (lad 3) 96 u_6.2, txb, bO t2 4 (tF (lad 0) ad2 ((nightsF ft (k + 1) d) 0) ((nightsF ft (k + 1) d) 9) ((nightsF ft (k + 1) d) 5) ((nightsF ft (k + 1) d) 6) ((nightsF ft (k + 1) d) 7) ((nightsF ft (k + 1) d) 1) ((nightsF ft (k + 1) d) 8)), bI g (ad2 1) 10 (col (nightsF ft (k + 1) d) 0), bI g (ad2 2) 10 (col (nightsF ft (k + 1) d) 1), bI g (ad2 3) 10 (col (nightsF ft (k + 1) d) 2), bI g (ad2 4) 10 (col (nightsF ft (k + 1) d) 3), bI g (ad2 5) 10 (col (nightsF ft (k + 1) d) 4), bI g (ad2 6) 3 (rulF (nightsF ft (k + 1) d)), bI g (ad2 7) 3 cn, bO o 6 (cF (lad 0) t t3 t2 ch kp tp wt)] := by rw [← he]; exact hw
            refine lv_iinc (v := nI (k + 1)) (lv' := [(2, .int (nI (k + 1))), (0, .ref o), (1, .int (nI j))]) hx hb dX6_cold_54 hl (k := 2) rfl (nI_1 k) (by decide) rfl (fun ls hl => ?_)
            refine lv_goto (tgt := 27) hx hb dX6_cold_57 (by decide) ?_
            exact ih27 (k + 1) u_6.1 u_6.2 (by omega) (by omega) hls2 _ _ _ hw (lv_sub hl [1, 2, 0] rfl)
    exact L27 201 0 nm st_ (by omega) (by omega) rfl _ _ _ hw (lv_sub hl [1, 2, 0] rfl)
  · have c8 := b01_z c8
    refine lv_ldc hx hb hown (hts _ q356) dX6_cold_11 ?_
    exact s_iret cf hr hlk (nm, st_, d2, cn2) hw (by unfold R_cold; rw [if_neg c8]) (Nat.le_of_ble_eq_true rfl) (Nat.le_of_ble_eq_true rfl) dX6_cold_13 hQ
set_option maxRecDepth 100000 in
set_option maxHeartbeats 4000000 in
theorem c_shut {l : Launch} {g : GG} {t : Nat} {lad ad : Nat → Nat} {d cn : DD} {nm st_ : DD} {tr : Nat → Option Nat} {txb : va_W} {ft : TXC} (hF : FitAt g tr txb (cn 0) ft) (hFo : okF ft) (hI : InvH d) {n : Nat} (hn : d 0 = nI n) (hn10 : n ≤ 10) {ni : Nat} (hni : d 1 = nI ni) (h9 : ni ≤ 9999) {o t2 t3 : Nat} {ch : Nat → Nat} {kp tp wt : Int32} {ad2 : Nat → Nat} {d2 cn2 : DD} (x : Int32) : Ct l g yX6_shut cX6_shut 3 (Option.some Jvm.ClassFile.FieldType.int) 6 0 0 [.ref o, .int x] [bO t 4 (tF (lad 0) ad (d 0) (d 9) (d 5) (d 6) (d 7) (d 1) (d 8)), bI g (ad 1) 10 (col d 0), bI g (ad 2) 10 (col d 1), bI g (ad 3) 10 (col d 2), bI g (ad 4) 10 (col d 3), bI g (ad 5) 10 (col d 4), bI g (ad 6) 3 (rulF d), bI g (ad 7) 3 cn, bO (lad 0) 0 ([.ref (lad 1), .ref (lad 2), .ref (lad 3)]), bR g 4 (lad 1) 14 tr, bI g (lad 2) 6 nm, bI g (lad 3) 96 st_, txb, bO t2 4 (tF (lad 0) ad2 (d2 0) (d2 9) (d2 5) (d2 6) (d2 7) (d2 1) (d2 8)), bI g (ad2 1) 10 (col d2 0), bI g (ad2 2) 10 (col d2 1), bI g (ad2 3) 10 (col d2 2), bI g (ad2 4) 10 (col d2 3), bI g (ad2 5) 10 (col d2 4), bI g (ad2 6) 3 (rulF d2), bI g (ad2 7) 3 cn2, bO o 6 (cF (lad 0) t t3 t2 ch kp tp wt)] (QI g (fun r (_ : DD × DD × DD × DD) => r = R_shut ft d x) (fun u => [bO t 4 (tF (lad 0) ad (d 0) (d 9) (d 5) (d 6) (d 7) (d 1) (d 8)), bI g (ad 1) 10 (col d 0), bI g (ad 2) 10 (col d 1), bI g (ad 3) 10 (col d 2), bI g (ad 4) 10 (col d 3), bI g (ad 5) 10 (col d 4), bI g (ad 6) 3 (rulF d), bI g (ad 7) 3 cn, bO (lad 0) 0 ([.ref (lad 1), .ref (lad 2), .ref (lad 3)]), bR g 4 (lad 1) 14 tr, bI g (lad 2) 6 u.1, bI g (lad 3) 96 u.2.1, txb, bO t2 4 (tF (lad 0) ad2 (u.2.2.1 0) (u.2.2.1 9) (u.2.2.1 5) (u.2.2.1 6) (u.2.2.1 7) (u.2.2.1 1) (u.2.2.1 8)), bI g (ad2 1) 10 (col u.2.2.1 0), bI g (ad2 2) 10 (col u.2.2.1 1), bI g (ad2 3) 10 (col u.2.2.1 2), bI g (ad2 4) 10 (col u.2.2.1 3), bI g (ad2 5) 10 (col u.2.2.1 4), bI g (ad2 6) 3 (rulF u.2.2.1), bI g (ad2 7) 3 u.2.2.2, bO o 6 (cF (lad 0) t t3 t2 ch kp tp wt)])) := by
  refine Ct.of (by decide) rfl ?_
  intro p e s m args below meth c A H locs ls Qf cf hr hlk hnm hQ hw hl
  have hx := cf.1
  have hb := cf.2.1
  have hml := cf.2.2.1
  have hown := cf.2.2.2.1
  have hts := cf.2.2.2.2
  have hw : WD g A s H locs [bO t 4 (tF (lad 0) ad (d 0) (d 9) (d 5) (d 6) (d 7) (d 1) (d 8)), bI g (ad 1) 10 (col d 0), bI g (ad 2) 10 (col d 1), bI g (ad 3) 10 (col d 2), bI g (ad 4) 10 (col d 3), bI g (ad 5) 10 (col d 4), bI g (ad 6) 3 (rulF d), bI g (ad 7) 3 cn, bO (lad 0) 0 ([.ref (lad 1), .ref (lad 2), .ref (lad 3)]), bR g 4 (lad 1) 14 tr, bI g (lad 2) 6 nm, bI g (lad 3) 96 st_, txb, bO t2 4 (tF (lad 0) ad2 (d2 0) (d2 9) (d2 5) (d2 6) (d2 7) (d2 1) (d2 8)), bI g (ad2 1) 10 (col d2 0), bI g (ad2 2) 10 (col d2 1), bI g (ad2 3) 10 (col d2 2), bI g (ad2 4) 10 (col d2 3), bI g (ad2 5) 10 (col d2 4), bI g (ad2 6) 3 (rulF d2), bI g (ad2 7) 3 cn2, bO o 6 (cF (lad 0) t t3 t2 ch kp tp wt)] := hw
  have hl : lv_has ls 3 [(0, .ref o), (1, .int x)] := hl
  refine lv_aload_n hx hb dX6_shut_0 rfl (lv_at hl 0 rfl) ?_
  refine s_get (v := .ref t) fb6 cf hw 21 rfl 1 rfl q307 rfl dX6_shut_1 ?_
  refine lv_iload_n hx hb dX6_shut_4 rfl (lv_at hl 1 rfl) ?_
  refine s_calli (runVN cf (x_has (cn := cn) (t := t) (lad := lad) (ad := ad) (d := d) (n := n) hn hn10 x) hw [0] (by decide) rfl km_X4_has ki_X4_has q367 (run_recv (ci := 4) (T := TX4) (N := 15) hw 0 rfl rfl) rfl rfl hl.1 rfl dX6_shut_5) hw [0] (by decide) rfl (fun _ => rfl) (fun r_3 u_1 H locs hp_2 hw => ?_)
  have hw : WD g A s H locs [bO t 4 (tF (lad 0) ad (d 0) (d 9) (d 5) (d 6) (d 7) (d 1) (d 8)), bI g (ad 1) 10 (col d 0), bI g (ad 2) 10 (col d 1), bI g (ad 3) 10 (col d 2), bI g (ad 4) 10 (col d 3), bI g (ad 5) 10 (col d 4), bI g (ad 6) 3 (rulF d), bI g (ad 7) 3 cn, bO (lad 0) 0 ([.ref (lad 1), .ref (lad 2), .ref (lad 3)]), bR g 4 (lad 1) 14 tr, bI g (lad 2) 6 nm, bI g (lad 3) 96 st_, txb, bO t2 4 (tF (lad 0) ad2 (d2 0) (d2 9) (d2 5) (d2 6) (d2 7) (d2 1) (d2 8)), bI g (ad2 1) 10 (col d2 0), bI g (ad2 2) 10 (col d2 1), bI g (ad2 3) 10 (col d2 2), bI g (ad2 4) 10 (col d2 3), bI g (ad2 5) 10 (col d2 4), bI g (ad2 6) 3 (rulF d2), bI g (ad2 7) 3 cn2, bO o 6 (cF (lad 0) t t3 t2 ch kp tp wt)] := hw
  subst hp_2
  refine lv_if_ne (tgt := 14) hx hb dX6_shut_8 (by decide) (fun c8 => ?_) (fun c8 => ?_)
  · have c8 := b01_n c8
    obtain ⟨j, hjn, hxj, hcl⟩ := isH_nat hn hn10 c8
    subst hxj
    refine lv_aload_n hx hb dX6_shut_14 rfl (lv_at hl 0 rfl) ?_
    refine s_get (v := .ref t2) fb6 cf hw 21 rfl 3 rfl q309 rfl dX6_shut_15 ?_
    refine lv_aload_n hx hb dX6_shut_18 rfl (lv_at hl 0 rfl) ?_
    refine s_get (v := .ref t) fb6 cf hw 21 rfl 1 rfl q307 rfl dX6_shut_19 ?_
    refine s_callv (runVN cf (x_become (t := t2) (lad := lad) (ad := ad2) (d := d2) (cn := cn2) (t2 := t) (ad2 := ad) (d2 := d) (cn2 := cn)) hw [13, 14, 15, 16, 17, 18, 19, 20, 0, 1, 2, 3, 4, 5, 6, 7] (by decide) rfl km_X4_become ki_X4_become q541 (run_recv (ci := 4) (T := TX4) (N := 15) hw 13 rfl rfl) rfl rfl hl.1 rfl dX6_shut_22) hw [13, 14, 15, 16, 17, 18, 19, 20, 0, 1, 2, 3, 4, 5, 6, 7] (by decide) rfl (fun _ => rfl) (fun u_4 H locs hp_5 hw => ?_)
    have hw : WD g A s H locs [bO t 4 (tF (lad 0) ad (d 0) (d 9) (d 5) (d 6) (d 7) (d 1) (d 8)), bI g (ad 1) 10 (col d 0), bI g (ad 2) 10 (col d 1), bI g (ad 3) 10 (col d 2), bI g (ad 4) 10 (col d 3), bI g (ad 5) 10 (col d 4), bI g (ad 6) 3 (rulF d), bI g (ad 7) 3 cn, bO (lad 0) 0 ([.ref (lad 1), .ref (lad 2), .ref (lad 3)]), bR g 4 (lad 1) 14 tr, bI g (lad 2) 6 nm, bI g (lad 3) 96 st_, txb, bO t2 4 (tF (lad 0) ad2 (d 0) (d 9) (d 5) (d 6) (d 7) (d 1) (d 8)), bI g (ad2 1) 10 (col d 0), bI g (ad2 2) 10 (col d 1), bI g (ad2 3) 10 (col d 2), bI g (ad2 4) 10 (col d 3), bI g (ad2 5) 10 (col d 4), bI g (ad2 6) 3 (rulF d), bI g (ad2 7) 3 cn, bO o 6 (cF (lad 0) t t3 t2 ch kp tp wt)] := hw
    refine lv_iconst (v := 0) hx hb dX6_shut_25 (by decide) ?_
    refine lv_istore_n (lv' := [(2, .int 0), (0, .ref o), (1, .int (nI j))]) hx hb dX6_shut_26 rfl hl (by decide) rfl (fun ls hl => ?_)
    have L27 : ∀ (fu : Nat) (k : Nat) (nm st_ : DD), (k ≤ 201) → (201 < k + fu) → (k ≤ 200 → shutK ft d j = lst (fun k => slackAt ft d j k ≤ 0) (200 - k) k) → (201 ≤ k → ¬ slackAt ft d j (shutK ft d j) = 0) → ∀ (H : Heap) (locs : List Loc) (ls : Array Slot), WD g A s H locs [bO t 4 (tF (lad 0) ad (d 0) (d 9) (d 5) (d 6) (d 7) (d 1) (d 8)), bI g (ad 1) 10 (col d 0), bI g (ad 2) 10 (col d 1), bI g (ad 3) 10 (col d 2), bI g (ad 4) 10 (col d 3), bI g (ad 5) 10 (col d 4), bI g (ad 6) 3 (rulF d), bI g (ad 7) 3 cn, bO (lad 0) 0 ([.ref (lad 1), .ref (lad 2), .ref (lad 3)]), bR g 4 (lad 1) 14 tr, bI g (lad 2) 6 nm, bI g (lad 3) 96 st_, txb, bO t2 4 (tF (lad 0) ad2 ((nightsF ft k d) 0) ((nightsF ft k d) 9) ((nightsF ft k d) 5) ((nightsF ft k d) 6) ((nightsF ft k d) 7) ((nightsF ft k d) 1) ((nightsF ft k d) 8)), bI g (ad2 1) 10 (col (nightsF ft k d) 0), bI g (ad2 2) 10 (col (nightsF ft k d) 1), bI g (ad2 3) 10 (col (nightsF ft k d) 2), bI g (ad2 4) 10 (col (nightsF ft k d) 3), bI g (ad2 5) 10 (col (nightsF ft k d) 4), bI g (ad2 6) 3 (rulF (nightsF ft k d)), bI g (ad2 7) 3 cn, bO o 6 (cF (lad 0) t t3 t2 ch kp tp wt)] → lv_has ls 3 [(0, .ref o), (1, .int (nI j)), (2, .int (nI k))] → W p l e (rmx 6 0 0) s m args below meth c H locs 0 0 Qf (F0 m 27 ls []) := by
      intro fu
      induction fu with
      | zero => intro k nm st_ hk hfu hls hno; exfalso; omega
      | succ fu ih27 =>
        intro k nm st_ hk hfu hls hno H locs ls hw hl
        have hIk : InvH (nightsF ft k d) := inv_nights hI
        have b3 := slack_rng (ft := ft) hIk j
        refine lv_iload_n hx hb dX6_shut_27 rfl (lv_at hl 2 rfl) ?_
        refine lv_sipush (v := 200) hx hb dX6_shut_28 (by decide) ?_
        refine lv_icmp_gt (tgt := 61) hx hb dX6_shut_31 (by decide) (fun c31 => ?_) (fun c31 => ?_)
        · have hk2 : ¬ k ≤ 200 := fun z => absurd (nI_le (b := 200) z (by omega)) (Int32.not_le.mpr c31)
          refine lv_ldc hx hb hown (hts _ q552) dX6_shut_61 ?_
          exact s_iret cf hr hlk (nm, st_, (nightsF ft k d), cn) hw (by unfold R_shut; rw [if_pos c8, hcl, if_neg (hno (by omega))]) (Nat.le_of_ble_eq_true rfl) (Nat.le_of_ble_eq_true rfl) dX6_shut_63 hQ
        · have hlt : k ≤ 200 := by rcases Nat.lt_or_ge 200 k with z | z; exact absurd (nI_lt z (by omega)) c31; exact z
          refine lv_aload_n hx hb dX6_shut_34 rfl (lv_at hl 0 rfl) ?_
          refine s_get (v := .ref t2) fb6 cf hw 21 rfl 3 rfl q309 rfl dX6_shut_35 ?_
          refine lv_iload_n hx hb dX6_shut_38 rfl (lv_at hl 1 rfl) ?_
          refine s_calli (runVN cf (x_slack (t := t2) (lad := lad) (ad := ad2) (d := (nightsF ft k d)) (cn := cn) (nm := nm) (st_ := st_) (tr := tr) (txb := txb) (ft := ft) hF hFo hIk j (by omega)) hw [13, 14, 15, 16, 17, 20, 8, 9, 10, 11, 12] (by decide) rfl km_X4_slack ki_X4_slack q371 (run_recv (ci := 4) (T := TX4) (N := 15) hw 13 rfl rfl) rfl rfl hl.1 rfl dX6_shut_39) hw [13, 14, 15, 16, 17, 20, 8, 9, 10, 11, 12] (by decide) rfl (fun _ => rfl) (fun r_8 u_6 H locs hp_7 hw => ?_)
          have hw : WD g A s H locs [bO t 4 (tF (lad 0) ad (d 0) (d 9) (d 5) (d 6) (d 7) (d 1) (d 8)), bI g (ad 1) 10 (col d 0), bI g (ad 2) 10 (col d 1), bI g (ad 3) 10 (col d 2), bI g (ad 4) 10 (col d 3), bI g (ad 5) 10 (col d 4), bI g (ad 6) 3 (rulF d), bI g (ad 7) 3 cn, bO (lad 0) 0 ([.ref (lad 1), .ref (lad 2), .ref (lad 3)]), bR g 4 (lad 1) 14 tr, bI g (lad 2) 6 u_6.1, bI g (lad 3) 96 u_6.2, txb, bO t2 4 (tF (lad 0) ad2 ((nightsF ft k d) 0) ((nightsF ft k d) 9) ((nightsF ft k d) 5) ((nightsF ft k d) 6) ((nightsF ft k d) 7) ((nightsF ft k d) 1) ((nightsF ft k d) 8)), bI g (ad2 1) 10 (col (nightsF ft k d) 0), bI g (ad2 2) 10 (col (nightsF ft k d) 1), bI g (ad2 3) 10 (col (nightsF ft k d) 2), bI g (ad2 4) 10 (col (nightsF ft k d) 3), bI g (ad2 5) 10 (col (nightsF ft k d) 4), bI g (ad2 6) 3 (rulF (nightsF ft k d)), bI g (ad2 7) 3 cn, bO o 6 (cF (lad 0) t t3 t2 ch kp tp wt)] := hw
          subst hp_7
          refine lv_if_ne (tgt := 47) hx hb dX6_shut_42 (by decide) (fun c42 => ?_) (fun c42 => ?_)
          · have hls2 : k + 1 ≤ 200 → shutK ft d j = lst (fun k => slackAt ft d j k ≤ 0) (200 - (k + 1)) (k + 1) := fun z => (hls hlt).trans (lst_step (by omega) (show ¬ slackF ft (nightsF ft k d) j ≤ 0 by have := b3.1; grind))
            have hno2 : 201 ≤ k + 1 → ¬ slackAt ft d j (shutK ft d j) = 0 := fun z => by rw [hls hlt, lst_end (by omega)]; exact c42
            refine lv_aload_n hx hb dX6_shut_47 rfl (lv_at hl 0 rfl) ?_
            refine s_get (v := .ref t2) fb6 cf hw 21 rfl 3 rfl q309 rfl dX6_shut_48 ?_
            refine lv_iconst (v := 1) hx hb dX6_shut_51 (by decide) ?_
            refine s_callv (runVN cf (x_pass (t := t2) (lad := lad) (ad := ad2) (d := (nightsF ft k d)) (cn := cn) (nm := u_6.1) (st_ := u_6.2) (tr := tr) (txb := txb) (ft := ft) hF hFo hIk (nightsF_1 (ft := ft) hni k) 1 (by omega)) hw [13, 14, 15, 16, 17, 18, 19, 20, 8, 9, 10, 11, 12] (by decide) rfl km_X4_pass ki_X4_pass q499 (run_recv (ci := 4) (T := TX4) (N := 15) hw 13 rfl rfl) rfl rfl hl.1 rfl dX6_shut_52) hw [13, 14, 15, 16, 17, 18, 19, 20, 8, 9, 10, 11, 12] (by decide) rfl (fun _ => rfl) (fun u_9 H locs hp_10 hw => ?_)
            have hw : WD g A s H locs [bO t 4 (tF (lad 0) ad (d 0) (d 9) (d 5) (d 6) (d 7) (d 1) (d 8)), bI g (ad 1) 10 (col d 0), bI g (ad 2) 10 (col d 1), bI g (ad 3) 10 (col d 2), bI g (ad 4) 10 (col d 3), bI g (ad 5) 10 (col d 4), bI g (ad 6) 3 (rulF d), bI g (ad 7) 3 cn, bO (lad 0) 0 ([.ref (lad 1), .ref (lad 2), .ref (lad 3)]), bR g 4 (lad 1) 14 tr, bI g (lad 2) 6 u_9.1, bI g (lad 3) 96 u_9.2, txb, bO t2 4 (tF (lad 0) ad2 ((nightsF ft 1 (nightsF ft k d)) 0) ((nightsF ft 1 (nightsF ft k d)) 9) ((nightsF ft 1 (nightsF ft k d)) 5) ((nightsF ft 1 (nightsF ft k d)) 6) ((nightsF ft 1 (nightsF ft k d)) 7) ((nightsF ft 1 (nightsF ft k d)) 1) ((nightsF ft 1 (nightsF ft k d)) 8)), bI g (ad2 1) 10 (col (nightsF ft 1 (nightsF ft k d)) 0), bI g (ad2 2) 10 (col (nightsF ft 1 (nightsF ft k d)) 1), bI g (ad2 3) 10 (col (nightsF ft 1 (nightsF ft k d)) 2), bI g (ad2 4) 10 (col (nightsF ft 1 (nightsF ft k d)) 3), bI g (ad2 5) 10 (col (nightsF ft 1 (nightsF ft k d)) 4), bI g (ad2 6) 3 (rulF (nightsF ft 1 (nightsF ft k d))), bI g (ad2 7) 3 cn, bO o 6 (cF (lad 0) t t3 t2 ch kp tp wt)] := hw
            have he : nightsF ft 1 (nightsF ft k d) = nightsF ft (k + 1) d := nights_1s
            have hw : WD g A s H locs [bO t 4 (tF (lad 0) ad (d 0) (d 9) (d 5) (d 6) (d 7) (d 1) (d 8)), bI g (ad 1) 10 (col d 0), bI g (ad 2) 10 (col d 1), bI g (ad 3) 10 (col d 2), bI g (ad 4) 10 (col d 3), bI g (ad 5) 10 (col d 4), bI g (ad 6) 3 (rulF d), bI g (ad 7) 3 cn, bO (lad 0) 0 ([.ref (lad 1), .ref (lad 2), .ref (lad 3)]), bR g 4 (lad 1) 14 tr, bI g (lad 2) 6 u_9.1, bI g (lad 3) 96 u_9.2, txb, bO t2 4 (tF (lad 0) ad2 ((nightsF ft (k + 1) d) 0) ((nightsF ft (k + 1) d) 9) ((nightsF ft (k + 1) d) 5) ((nightsF ft (k + 1) d) 6) ((nightsF ft (k + 1) d) 7) ((nightsF ft (k + 1) d) 1) ((nightsF ft (k + 1) d) 8)), bI g (ad2 1) 10 (col (nightsF ft (k + 1) d) 0), bI g (ad2 2) 10 (col (nightsF ft (k + 1) d) 1), bI g (ad2 3) 10 (col (nightsF ft (k + 1) d) 2), bI g (ad2 4) 10 (col (nightsF ft (k + 1) d) 3), bI g (ad2 5) 10 (col (nightsF ft (k + 1) d) 4), bI g (ad2 6) 3 (rulF (nightsF ft (k + 1) d)), bI g (ad2 7) 3 cn, bO o 6 (cF (lad 0) t t3 t2 ch kp tp wt)] := by rw [← he]; exact hw
            refine lv_iinc (v := nI (k + 1)) (lv' := [(2, .int (nI (k + 1))), (0, .ref o), (1, .int (nI j))]) hx hb dX6_shut_55 hl (k := 2) rfl (nI_1 k) (by decide) rfl (fun ls hl => ?_)
            refine lv_goto (tgt := 27) hx hb dX6_shut_58 (by decide) ?_
            exact ih27 (k + 1) u_9.1 u_9.2 (by omega) (by omega) hls2 hno2 _ _ _ hw (lv_sub hl [1, 2, 0] rfl)
          · have hK : shutK ft d j = k := by rw [hls hlt]; rcases Nat.lt_or_ge k 200 with z | z; exact lst_stop z (show slackF ft (nightsF ft k d) j ≤ 0 by rw [c42]; decide); exact lst_end (by omega)
            refine lv_iload_n hx hb dX6_shut_45 rfl (lv_at hl 2 rfl) ?_
            exact s_iret cf hr hlk (u_6.1, u_6.2, (nightsF ft k d), cn) hw (by unfold R_shut; rw [if_pos c8, hcl, hK, if_pos (show slackAt ft d j k = 0 from c42)]) (Nat.le_of_ble_eq_true rfl) (Nat.le_of_ble_eq_true rfl) dX6_shut_46 hQ
    exact L27 202 0 nm st_ (by omega) (by omega) (fun _ => rfl) (fun z => absurd z (by omega)) _ _ _ hw (lv_sub hl [1, 2, 0] rfl)
  · have c8 := b01_z c8
    refine lv_ldc hx hb hown (hts _ q356) dX6_shut_11 ?_
    exact s_iret cf hr hlk (nm, st_, d2, cn2) hw (by unfold R_shut; rw [if_neg c8]) (Nat.le_of_ble_eq_true rfl) (Nat.le_of_ble_eq_true rfl) dX6_shut_13 hQ
