set_option maxRecDepth 100000 in
set_option maxHeartbeats 4000000 in
theorem c_becomes {l : Launch} {g : GG} {t : Nat} {lad ad : Nat → Nat} {d cn : DD} {nm st_ : DD} {tr : Nat → Option Nat} {txb : va_W} {ft : TXC} (hF : FitAt g tr txb (cn 0) ft) (hFo : okF ft) (hI : InvH d) {n : Nat} (hn : d 0 = nI n) (hn10 : n ≤ 10) {ni : Nat} (hni : d 1 = nI ni) (h9 : ni ≤ 9999) {o t2 t3 : Nat} {ch : Nat → Nat} {kp tp wt : Int32} {ad2 : Nat → Nat} {d2 cn2 : DD} (x y w : Int32) : Ct l g yX6_becomes cX6_becomes 7 (Option.some Jvm.ClassFile.FieldType.int) 6 0 0 [.ref o, .int x, .int y, .int w] [bO t2 4 (tF (lad 0) ad2 (d2 0) (d2 9) (d2 5) (d2 6) (d2 7) (d2 1) (d2 8)), bI g (ad2 1) 10 (col d2 0), bI g (ad2 2) 10 (col d2 1), bI g (ad2 3) 10 (col d2 2), bI g (ad2 4) 10 (col d2 3), bI g (ad2 5) 10 (col d2 4), bI g (ad2 6) 3 (rulF d2), bI g (ad2 7) 3 cn2, bO t 4 (tF (lad 0) ad (d 0) (d 9) (d 5) (d 6) (d 7) (d 1) (d 8)), bI g (ad 1) 10 (col d 0), bI g (ad 2) 10 (col d 1), bI g (ad 3) 10 (col d 2), bI g (ad 4) 10 (col d 3), bI g (ad 5) 10 (col d 4), bI g (ad 6) 3 (rulF d), bI g (ad 7) 3 cn, bO (lad 0) 0 ([.ref (lad 1), .ref (lad 2), .ref (lad 3)]), bR g 4 (lad 1) 14 tr, bI g (lad 2) 6 nm, bI g (lad 3) 96 st_, txb, bO o 6 (cF (lad 0) t t3 t2 ch kp tp wt)] (QI g (fun r (_ : DD × DD × DD × DD) => r = R_becomes ft d x y w) (fun u => [bO t2 4 (tF (lad 0) ad2 (u.2.2.1 0) (u.2.2.1 9) (u.2.2.1 5) (u.2.2.1 6) (u.2.2.1 7) (u.2.2.1 1) (u.2.2.1 8)), bI g (ad2 1) 10 (col u.2.2.1 0), bI g (ad2 2) 10 (col u.2.2.1 1), bI g (ad2 3) 10 (col u.2.2.1 2), bI g (ad2 4) 10 (col u.2.2.1 3), bI g (ad2 5) 10 (col u.2.2.1 4), bI g (ad2 6) 3 (rulF u.2.2.1), bI g (ad2 7) 3 u.2.2.2, bO t 4 (tF (lad 0) ad (d 0) (d 9) (d 5) (d 6) (d 7) (d 1) (d 8)), bI g (ad 1) 10 (col d 0), bI g (ad 2) 10 (col d 1), bI g (ad 3) 10 (col d 2), bI g (ad 4) 10 (col d 3), bI g (ad 5) 10 (col d 4), bI g (ad 6) 3 (rulF d), bI g (ad 7) 3 cn, bO (lad 0) 0 ([.ref (lad 1), .ref (lad 2), .ref (lad 3)]), bR g 4 (lad 1) 14 tr, bI g (lad 2) 6 u.1, bI g (lad 3) 96 u.2.1, txb, bO o 6 (cF (lad 0) t t3 t2 ch kp tp wt)])) := by
  refine Ct.of (by decide) rfl ?_
  intro p e s m args below meth c A H locs ls Qf cf hr hlk hnm hQ hw hl
  have hx := cf.1
  have hb := cf.2.1
  have hml := cf.2.2.1
  have hown := cf.2.2.2.1
  have hts := cf.2.2.2.2
  have hw : WD g A s H locs [bO t2 4 (tF (lad 0) ad2 (d2 0) (d2 9) (d2 5) (d2 6) (d2 7) (d2 1) (d2 8)), bI g (ad2 1) 10 (col d2 0), bI g (ad2 2) 10 (col d2 1), bI g (ad2 3) 10 (col d2 2), bI g (ad2 4) 10 (col d2 3), bI g (ad2 5) 10 (col d2 4), bI g (ad2 6) 3 (rulF d2), bI g (ad2 7) 3 cn2, bO t 4 (tF (lad 0) ad (d 0) (d 9) (d 5) (d 6) (d 7) (d 1) (d 8)), bI g (ad 1) 10 (col d 0), bI g (ad 2) 10 (col d 1), bI g (ad 3) 10 (col d 2), bI g (ad 4) 10 (col d 3), bI g (ad 5) 10 (col d 4), bI g (ad 6) 3 (rulF d), bI g (ad 7) 3 cn, bO (lad 0) 0 ([.ref (lad 1), .ref (lad 2), .ref (lad 3)]), bR g 4 (lad 1) 14 tr, bI g (lad 2) 6 nm, bI g (lad 3) 96 st_, txb, bO o 6 (cF (lad 0) t t3 t2 ch kp tp wt)] := hw
  have hl : lv_has ls 7 [(0, .ref o), (1, .int x), (2, .int y), (3, .int w)] := hl
  refine lv_aload_n hx hb dX6_becomes_0 rfl (lv_at hl 0 rfl) ?_
  refine s_get (v := .ref t) fb6 cf hw 21 rfl 1 rfl q307 rfl dX6_becomes_1 ?_
  refine lv_iload_n hx hb dX6_becomes_4 rfl (lv_at hl 1 rfl) ?_
  refine s_calli (runVN cf (x_has (cn := cn) (t := t) (lad := lad) (ad := ad) (d := d) (n := n) hn hn10 x) hw [8] (by decide) rfl km_X4_has ki_X4_has q367 (run_recv (ci := 4) (T := TX4) (N := 15) hw 8 rfl rfl) rfl rfl hl.1 rfl dX6_becomes_5) hw [8] (by decide) rfl (fun _ => rfl) (fun r_3 u_1 H locs hp_2 hw => ?_)
  have hw : WD g A s H locs [bO t2 4 (tF (lad 0) ad2 (d2 0) (d2 9) (d2 5) (d2 6) (d2 7) (d2 1) (d2 8)), bI g (ad2 1) 10 (col d2 0), bI g (ad2 2) 10 (col d2 1), bI g (ad2 3) 10 (col d2 2), bI g (ad2 4) 10 (col d2 3), bI g (ad2 5) 10 (col d2 4), bI g (ad2 6) 3 (rulF d2), bI g (ad2 7) 3 cn2, bO t 4 (tF (lad 0) ad (d 0) (d 9) (d 5) (d 6) (d 7) (d 1) (d 8)), bI g (ad 1) 10 (col d 0), bI g (ad 2) 10 (col d 1), bI g (ad 3) 10 (col d 2), bI g (ad 4) 10 (col d 3), bI g (ad 5) 10 (col d 4), bI g (ad 6) 3 (rulF d), bI g (ad 7) 3 cn, bO (lad 0) 0 ([.ref (lad 1), .ref (lad 2), .ref (lad 3)]), bR g 4 (lad 1) 14 tr, bI g (lad 2) 6 nm, bI g (lad 3) 96 st_, txb, bO o 6 (cF (lad 0) t t3 t2 ch kp tp wt)] := hw
  subst hp_2
  refine lv_if_eq (tgt := 30) hx hb dX6_becomes_8 (by decide) (fun c8 => ?_) (fun c8 => ?_)
  · have c8 := b01_z c8
    refine lv_ldc hx hb hown (hts _ q356) dX6_becomes_30 ?_
    exact s_iret cf hr hlk (nm, st_, d2, cn2) hw (by unfold R_becomes; rw [if_neg (fun z => c8 z.1)]) (Nat.le_of_ble_eq_true rfl) (Nat.le_of_ble_eq_true rfl) dX6_becomes_32 hQ
  · have c8 := b01_n c8
    refine lv_iload_n hx hb dX6_becomes_11 rfl (lv_at hl 2 rfl) ?_
    refine lv_iconst (v := 1) hx hb dX6_becomes_12 (by decide) ?_
    refine lv_icmp_lt (tgt := 30) hx hb dX6_becomes_13 (by decide) (fun c13 => ?_) (fun c13 => ?_)
    · refine lv_ldc hx hb hown (hts _ q356) dX6_becomes_30 ?_
      exact s_iret cf hr hlk (nm, st_, d2, cn2) hw (by unfold R_becomes; rw [if_neg (fun z => absurd z.2.1.1 (Int32.not_le.mpr c13))]) (Nat.le_of_ble_eq_true rfl) (Nat.le_of_ble_eq_true rfl) dX6_becomes_32 hQ
    · refine lv_iload_n hx hb dX6_becomes_16 rfl (lv_at hl 2 rfl) ?_
      refine lv_bipush (v := 60) hx hb dX6_becomes_17 (by decide) ?_
      refine lv_icmp_gt (tgt := 30) hx hb dX6_becomes_19 (by decide) (fun c19 => ?_) (fun c19 => ?_)
      · refine lv_ldc hx hb hown (hts _ q356) dX6_becomes_30 ?_
        exact s_iret cf hr hlk (nm, st_, d2, cn2) hw (by unfold R_becomes; rw [if_neg (fun z => absurd z.2.1.2 (Int32.not_le.mpr c19))]) (Nat.le_of_ble_eq_true rfl) (Nat.le_of_ble_eq_true rfl) dX6_becomes_32 hQ
      · refine lv_iload_n hx hb dX6_becomes_22 rfl (lv_at hl 3 rfl) ?_
        refine lv_iconst (v := 1) hx hb dX6_becomes_23 (by decide) ?_
        refine s_calli (runS cf (x_isWithin w 1) hw [] (by decide) rfl km_X6_isWithin ks_X6_isWithin q353 rfl rfl hl.1 rfl dX6_becomes_24) hw [] (by decide) rfl (fun _ => rfl) (fun r_6 u_4 H locs hp_5 hw => ?_)
        have hw : WD g A s H locs [bO t2 4 (tF (lad 0) ad2 (d2 0) (d2 9) (d2 5) (d2 6) (d2 7) (d2 1) (d2 8)), bI g (ad2 1) 10 (col d2 0), bI g (ad2 2) 10 (col d2 1), bI g (ad2 3) 10 (col d2 2), bI g (ad2 4) 10 (col d2 3), bI g (ad2 5) 10 (col d2 4), bI g (ad2 6) 3 (rulF d2), bI g (ad2 7) 3 cn2, bO t 4 (tF (lad 0) ad (d 0) (d 9) (d 5) (d 6) (d 7) (d 1) (d 8)), bI g (ad 1) 10 (col d 0), bI g (ad 2) 10 (col d 1), bI g (ad 3) 10 (col d 2), bI g (ad 4) 10 (col d 3), bI g (ad 5) 10 (col d 4), bI g (ad 6) 3 (rulF d), bI g (ad 7) 3 cn, bO (lad 0) 0 ([.ref (lad 1), .ref (lad 2), .ref (lad 3)]), bR g 4 (lad 1) 14 tr, bI g (lad 2) 6 nm, bI g (lad 3) 96 st_, txb, bO o 6 (cF (lad 0) t t3 t2 ch kp tp wt)] := hw
        subst hp_5
        refine lv_if_ne (tgt := 33) hx hb dX6_becomes_27 (by decide) (fun c27 => ?_) (fun c27 => ?_)
        · have c27 := b01_n c27
          obtain ⟨j, hjn, hxj, hcl⟩ := isH_nat hn hn10 c8
          subst hxj
          have hy1 : 1 ≤ y ∧ y ≤ 60 := ⟨Int32.not_lt.mp c13, Int32.not_lt.mp c19⟩
          obtain ⟨xn, hxn, hyx⟩ := rng_nat (m := 60) (by omega) (Int32.le_trans (by decide) hy1.1) hy1.2
          subst hyx
          have hok : okCB d (nI j) (nI xn) w := ⟨c8, hy1, c27⟩
          refine lv_iconst (v := 0) hx hb dX6_becomes_33 (by decide) ?_
          refine lv_istore (lv' := [(4, .int 0), (0, .ref o), (1, .int (nI j)), (2, .int (nI xn)), (3, .int w)]) hx hb dX6_becomes_34 hl (by decide) rfl (fun ls hl => ?_)
          refine lv_ldc hx hb hown (hts _ q586) dX6_becomes_36 ?_
          refine lv_istore (lv' := [(5, .int 100000), (4, .int 0), (0, .ref o), (1, .int (nI j)), (2, .int (nI xn)), (3, .int w)]) hx hb dX6_becomes_38 hl (by decide) rfl (fun ls hl => ?_)
          refine lv_iconst (v := 0) hx hb dX6_becomes_40 (by decide) ?_
          refine lv_istore (lv' := [(6, .int 0), (5, .int 100000), (4, .int 0), (0, .ref o), (1, .int (nI j)), (2, .int (nI xn)), (3, .int w)]) hx hb dX6_becomes_41 hl (by decide) rfl (fun ls hl => ?_)
          have L43 : ∀ (fu : Nat) (k : Nat) (nm st_ d2 cn2 : DD), (k ≤ 6) → (6 < k + fu) → ∀ (H : Heap) (locs : List Loc) (ls : Array Slot), WD g A s H locs [bO t2 4 (tF (lad 0) ad2 (d2 0) (d2 9) (d2 5) (d2 6) (d2 7) (d2 1) (d2 8)), bI g (ad2 1) 10 (col d2 0), bI g (ad2 2) 10 (col d2 1), bI g (ad2 3) 10 (col d2 2), bI g (ad2 4) 10 (col d2 3), bI g (ad2 5) 10 (col d2 4), bI g (ad2 6) 3 (rulF d2), bI g (ad2 7) 3 cn2, bO t 4 (tF (lad 0) ad (d 0) (d 9) (d 5) (d 6) (d 7) (d 1) (d 8)), bI g (ad 1) 10 (col d 0), bI g (ad 2) 10 (col d 1), bI g (ad 3) 10 (col d 2), bI g (ad 4) 10 (col d 3), bI g (ad 5) 10 (col d 4), bI g (ad 6) 3 (rulF d), bI g (ad 7) 3 cn, bO (lad 0) 0 ([.ref (lad 1), .ref (lad 2), .ref (lad 3)]), bR g 4 (lad 1) 14 tr, bI g (lad 2) 6 nm, bI g (lad 3) 96 st_, txb, bO o 6 (cF (lad 0) t t3 t2 ch kp tp wt)] → lv_has ls 7 [(0, .ref o), (1, .int (nI j)), (2, .int (nI xn)), (3, .int w), (4, .int ((becB ft d j xn k).1)), (5, .int ((becB ft d j xn k).2)), (6, .int (nI k))] → W p l e (rmx 6 0 0) s m args below meth c H locs 0 0 Qf (F0 m 43 ls []) := by
            intro fu
            induction fu with
            | zero => intro k nm st_ d2 cn2 hk hfu; exfalso; omega
            | succ fu ih43 =>
              intro k nm st_ d2 cn2 hk hfu H locs ls hw hl
              refine lv_iload hx hb dX6_becomes_43 (lv_at hl 6 rfl) ?_
              refine lv_bipush (v := 6) hx hb dX6_becomes_45 (by decide) ?_
              refine lv_icmp_ge (tgt := 111) hx hb dX6_becomes_47 (by decide) (fun c47 => ?_) (fun c47 => ?_)
              · have hk2 : 6 = k := by have := nI_le_of (n := 6) (by omega) c47 (by omega); omega
                refine lv_iload_n hx hb dX6_becomes_111 rfl (lv_at hl 3 rfl) ?_
                refine lv_if_ne (tgt := 120) hx hb dX6_becomes_112 (by decide) (fun c112 => ?_) (fun c112 => ?_)
                · refine lv_iload hx hb dX6_becomes_120 (lv_at hl 5 rfl) ?_
                  exact s_iret cf hr hlk (nm, st_, d2, cn2) hw (by unfold R_becomes; rw [if_pos hok, hcl, nI_clamp (by omega), if_neg c112, hk2]) (Nat.le_of_ble_eq_true rfl) (Nat.le_of_ble_eq_true rfl) dX6_becomes_122 hQ
                · refine lv_iload hx hb dX6_becomes_115 (lv_at hl 4 rfl) ?_
                  refine lv_goto (tgt := 122) hx hb dX6_becomes_117 (by decide) ?_
                  exact s_iret cf hr hlk (nm, st_, d2, cn2) hw (by unfold R_becomes; rw [if_pos hok, hcl, nI_clamp (by omega), if_pos c112, hk2]) (Nat.le_of_ble_eq_true rfl) (Nat.le_of_ble_eq_true rfl) dX6_becomes_122 hQ
              · have hlt : k < 6 := nI_lt_of (n := 6) (by omega) c47 (by omega)
                have hI2 : InvH (upd d (10 + 5 * j + 0) (nI k)) := inv_house hI (by omega) (nI_pos' (by omega)) (nI_le (b := 5) (by omega) (by omega))
                have hni2 : (upd d (10 + 5 * j + 0) (nI k)) 1 = nI ni := (upd_ne (by omega)).trans hni
                refine lv_aload_n hx hb dX6_becomes_50 rfl (lv_at hl 0 rfl) ?_
                refine s_get (v := .ref t2) fb6 cf hw 21 rfl 3 rfl q309 rfl dX6_becomes_51 ?_
                refine lv_aload_n hx hb dX6_becomes_54 rfl (lv_at hl 0 rfl) ?_
                refine s_get (v := .ref t) fb6 cf hw 21 rfl 1 rfl q307 rfl dX6_becomes_55 ?_
                refine s_callv (runVN cf (x_become (t := t2) (lad := lad) (ad := ad2) (d := d2) (cn := cn2) (t2 := t) (ad2 := ad) (d2 := d) (cn2 := cn)) hw [0, 1, 2, 3, 4, 5, 6, 7, 8, 9, 10, 11, 12, 13, 14, 15] (by decide) rfl km_X4_become ki_X4_become q541 (run_recv (ci := 4) (T := TX4) (N := 15) hw 0 rfl rfl) rfl rfl hl.1 rfl dX6_becomes_58) hw [0, 1, 2, 3, 4, 5, 6, 7, 8, 9, 10, 11, 12, 13, 14, 15] (by decide) rfl (fun _ => rfl) (fun u_7 H locs hp_8 hw => ?_)
                have hw : WD g A s H locs [bO t2 4 (tF (lad 0) ad2 (d 0) (d 9) (d 5) (d 6) (d 7) (d 1) (d 8)), bI g (ad2 1) 10 (col d 0), bI g (ad2 2) 10 (col d 1), bI g (ad2 3) 10 (col d 2), bI g (ad2 4) 10 (col d 3), bI g (ad2 5) 10 (col d 4), bI g (ad2 6) 3 (rulF d), bI g (ad2 7) 3 cn, bO t 4 (tF (lad 0) ad (d 0) (d 9) (d 5) (d 6) (d 7) (d 1) (d 8)), bI g (ad 1) 10 (col d 0), bI g (ad 2) 10 (col d 1), bI g (ad 3) 10 (col d 2), bI g (ad 4) 10 (col d 3), bI g (ad 5) 10 (col d 4), bI g (ad 6) 3 (rulF d), bI g (ad 7) 3 cn, bO (lad 0) 0 ([.ref (lad 1), .ref (lad 2), .ref (lad 3)]), bR g 4 (lad 1) 14 tr, bI g (lad 2) 6 nm, bI g (lad 3) 96 st_, txb, bO o 6 (cF (lad 0) t t3 t2 ch kp tp wt)] := hw
                refine lv_aload_n hx hb dX6_becomes_61 rfl (lv_at hl 0 rfl) ?_
                refine s_get (v := .ref t2) fb6 cf hw 21 rfl 3 rfl q309 rfl dX6_becomes_62 ?_
                refine s_getN (v := .ref (ad2 1)) fb4 cf hw 0 rfl 1 rfl q157 rfl dX6_becomes_65 ?_
                refine lv_iload_n hx hb dX6_becomes_68 rfl (lv_at hl 1 rfl) ?_
                refine lv_iload hx hb dX6_becomes_69 (lv_at hl 6 rfl) ?_
                refine s_iast (j := j) cf hw 1 rfl (rfl) (by omega) rfl dX6_becomes_71 (fun H locs hw => ?_)
                have hw : WD g A s H locs [bO t2 4 (tF (lad 0) ad2 (d 0) (d 9) (d 5) (d 6) (d 7) (d 1) (d 8)), bI g (ad2 1) 10 (upd (col d 0) j (nI k)), bI g (ad2 2) 10 (col d 1), bI g (ad2 3) 10 (col d 2), bI g (ad2 4) 10 (col d 3), bI g (ad2 5) 10 (col d 4), bI g (ad2 6) 3 (rulF d), bI g (ad2 7) 3 cn, bO t 4 (tF (lad 0) ad (d 0) (d 9) (d 5) (d 6) (d 7) (d 1) (d 8)), bI g (ad 1) 10 (col d 0), bI g (ad 2) 10 (col d 1), bI g (ad 3) 10 (col d 2), bI g (ad 4) 10 (col d 3), bI g (ad 5) 10 (col d 4), bI g (ad 6) 3 (rulF d), bI g (ad 7) 3 cn, bO (lad 0) 0 ([.ref (lad 1), .ref (lad 2), .ref (lad 3)]), bR g 4 (lad 1) 14 tr, bI g (lad 2) 6 nm, bI g (lad 3) 96 st_, txb, bO o 6 (cF (lad 0) t t3 t2 ch kp tp wt)] := hw
                have hw : WD g A s H locs [bO t2 4 (tF (lad 0) ad2 ((upd d (10 + 5 * j + 0) (nI k)) 0) ((upd d (10 + 5 * j + 0) (nI k)) 9) ((upd d (10 + 5 * j + 0) (nI k)) 5) ((upd d (10 + 5 * j + 0) (nI k)) 6) ((upd d (10 + 5 * j + 0) (nI k)) 7) ((upd d (10 + 5 * j + 0) (nI k)) 1) ((upd d (10 + 5 * j + 0) (nI k)) 8)), bI g (ad2 1) 10 (col (upd d (10 + 5 * j + 0) (nI k)) 0), bI g (ad2 2) 10 (col (upd d (10 + 5 * j + 0) (nI k)) 1), bI g (ad2 3) 10 (col (upd d (10 + 5 * j + 0) (nI k)) 2), bI g (ad2 4) 10 (col (upd d (10 + 5 * j + 0) (nI k)) 3), bI g (ad2 5) 10 (col (upd d (10 + 5 * j + 0) (nI k)) 4), bI g (ad2 6) 3 (rulF (upd d (10 + 5 * j + 0) (nI k))), bI g (ad2 7) 3 cn, bO t 4 (tF (lad 0) ad (d 0) (d 9) (d 5) (d 6) (d 7) (d 1) (d 8)), bI g (ad 1) 10 (col d 0), bI g (ad 2) 10 (col d 1), bI g (ad 3) 10 (col d 2), bI g (ad 4) 10 (col d 3), bI g (ad 5) 10 (col d 4), bI g (ad 6) 3 (rulF d), bI g (ad 7) 3 cn, bO (lad 0) 0 ([.ref (lad 1), .ref (lad 2), .ref (lad 3)]), bR g 4 (lad 1) 14 tr, bI g (lad 2) 6 nm, bI g (lad 3) 96 st_, txb, bO o 6 (cF (lad 0) t t3 t2 ch kp tp wt)] := tw_wd (rest := [bO t 4 (tF (lad 0) ad (d 0) (d 9) (d 5) (d 6) (d 7) (d 1) (d 8)), bI g (ad 1) 10 (col d 0), bI g (ad 2) 10 (col d 1), bI g (ad 3) 10 (col d 2), bI g (ad 4) 10 (col d 3), bI g (ad 5) 10 (col d 4), bI g (ad 6) 3 (rulF d), bI g (ad 7) 3 cn, bO (lad 0) 0 ([.ref (lad 1), .ref (lad 2), .ref (lad 3)]), bR g 4 (lad 1) 14 tr, bI g (lad 2) 6 nm, bI g (lad 3) 96 st_, txb, bO o 6 (cF (lad 0) t t3 t2 ch kp tp wt)]) (e := upd d (10 + 5 * j + 0) (nI k)) (tw_h j 0 (nI k) (by omega) (tw_id d)) hw
                refine lv_aload_n hx hb dX6_becomes_72 rfl (lv_at hl 0 rfl) ?_
                refine s_get (v := .ref t2) fb6 cf hw 21 rfl 3 rfl q309 rfl dX6_becomes_73 ?_
                refine lv_iload_n hx hb dX6_becomes_76 rfl (lv_at hl 2 rfl) ?_
                refine s_callv (runVN cf (x_pass (t := t2) (lad := lad) (ad := ad2) (d := (upd d (10 + 5 * j + 0) (nI k))) (cn := cn) (nm := nm) (st_ := st_) (tr := tr) (txb := txb) (ft := ft) hF hFo hI2 hni2 xn (by omega)) hw [0, 1, 2, 3, 4, 5, 6, 7, 16, 17, 18, 19, 20] (by decide) rfl km_X4_pass ki_X4_pass q499 (run_recv (ci := 4) (T := TX4) (N := 15) hw 0 rfl rfl) rfl rfl hl.1 rfl dX6_becomes_77) hw [0, 1, 2, 3, 4, 5, 6, 7, 16, 17, 18, 19, 20] (by decide) rfl (fun _ => rfl) (fun u_9 H locs hp_10 hw => ?_)
                have hw : WD g A s H locs [bO t2 4 (tF (lad 0) ad2 ((nightsF ft xn (upd d (10 + 5 * j + 0) (nI k))) 0) ((nightsF ft xn (upd d (10 + 5 * j + 0) (nI k))) 9) ((nightsF ft xn (upd d (10 + 5 * j + 0) (nI k))) 5) ((nightsF ft xn (upd d (10 + 5 * j + 0) (nI k))) 6) ((nightsF ft xn (upd d (10 + 5 * j + 0) (nI k))) 7) ((nightsF ft xn (upd d (10 + 5 * j + 0) (nI k))) 1) ((nightsF ft xn (upd d (10 + 5 * j + 0) (nI k))) 8)), bI g (ad2 1) 10 (col (nightsF ft xn (upd d (10 + 5 * j + 0) (nI k))) 0), bI g (ad2 2) 10 (col (nightsF ft xn (upd d (10 + 5 * j + 0) (nI k))) 1), bI g (ad2 3) 10 (col (nightsF ft xn (upd d (10 + 5 * j + 0) (nI k))) 2), bI g (ad2 4) 10 (col (nightsF ft xn (upd d (10 + 5 * j + 0) (nI k))) 3), bI g (ad2 5) 10 (col (nightsF ft xn (upd d (10 + 5 * j + 0) (nI k))) 4), bI g (ad2 6) 3 (rulF (nightsF ft xn (upd d (10 + 5 * j + 0) (nI k)))), bI g (ad2 7) 3 cn, bO t 4 (tF (lad 0) ad (d 0) (d 9) (d 5) (d 6) (d 7) (d 1) (d 8)), bI g (ad 1) 10 (col d 0), bI g (ad 2) 10 (col d 1), bI g (ad 3) 10 (col d 2), bI g (ad 4) 10 (col d 3), bI g (ad 5) 10 (col d 4), bI g (ad 6) 3 (rulF d), bI g (ad 7) 3 cn, bO (lad 0) 0 ([.ref (lad 1), .ref (lad 2), .ref (lad 3)]), bR g 4 (lad 1) 14 tr, bI g (lad 2) 6 u_9.1, bI g (lad 3) 96 u_9.2, txb, bO o 6 (cF (lad 0) t t3 t2 ch kp tp wt)] := hw
                refine lv_aload_n hx hb dX6_becomes_80 rfl (lv_at hl 0 rfl) ?_
                refine s_get (v := .ref t2) fb6 cf hw 21 rfl 3 rfl q309 rfl dX6_becomes_81 ?_
                refine s_getN (v := .int ((nightsF ft xn (upd d (10 + 5 * j + 0) (nI k))) 6)) fb4 cf hw 0 rfl 11 rfl q180 rfl dX6_becomes_84 ?_
                refine lv_topr (y := becC ft d j xn k) (rfl) ?_
                refine lv_iload hx hb dX6_becomes_87 (lv_at hl 5 rfl) ?_
                refine lv_icmp_ge (tgt := 105) hx hb dX6_becomes_89 (by decide) (fun c89 => ?_) (fun c89 => ?_)
                · have e1 : (becB ft d j xn (k + 1)).1 = (becB ft d j xn k).1 := if_neg (Int32.not_lt.mpr c89)
                  have e2 : (becB ft d j xn (k + 1)).2 = (becB ft d j xn k).2 := if_neg (Int32.not_lt.mpr c89)
                  have hl : lv_has ls 7 [(0, .ref o), (1, .int (nI j)), (2, .int (nI xn)), (3, .int w), (4, .int ((becB ft d j xn (k + 1)).1)), (5, .int ((becB ft d j xn k).2)), (6, .int (nI k))] := by rw [e1]; exact hl
                  have hl : lv_has ls 7 [(0, .ref o), (1, .int (nI j)), (2, .int (nI xn)), (3, .int w), (4, .int ((becB ft d j xn (k + 1)).1)), (5, .int ((becB ft d j xn (k + 1)).2)), (6, .int (nI k))] := by rw [e2]; exact hl
                  refine lv_iinc (v := nI (k + 1)) (lv' := [(6, .int (nI (k + 1))), (0, .ref o), (1, .int (nI j)), (2, .int (nI xn)), (3, .int w), (4, .int ((becB ft d j xn (k + 1)).1)), (5, .int ((becB ft d j xn (k + 1)).2))]) hx hb dX6_becomes_105 hl (k := 6) rfl (nI_1 k) (by decide) rfl (fun ls hl => ?_)
                  refine lv_goto (tgt := 43) hx hb dX6_becomes_108 (by decide) ?_
                  exact ih43 (k + 1) u_9.1 u_9.2 (nightsF ft xn (upd d (10 + 5 * j + 0) (nI k))) cn (by omega) (by omega) _ _ _ hw (lv_sub hl [1, 2, 3, 4, 5, 6, 0] rfl)
                · refine lv_iload hx hb dX6_becomes_92 (lv_at hl 6 rfl) ?_
                  refine lv_istore (lv' := [(4, .int (nI k)), (0, .ref o), (1, .int (nI j)), (2, .int (nI xn)), (3, .int w), (5, .int ((becB ft d j xn k).2)), (6, .int (nI k))]) hx hb dX6_becomes_94 hl (by decide) rfl (fun ls hl => ?_)
                  refine lv_aload_n hx hb dX6_becomes_96 rfl (lv_at hl 1 rfl) ?_
                  refine s_get (v := .ref t2) fb6 cf hw 21 rfl 3 rfl q309 rfl dX6_becomes_97 ?_
                  refine s_getN (v := .int ((nightsF ft xn (upd d (10 + 5 * j + 0) (nI k))) 6)) fb4 cf hw 0 rfl 11 rfl q180 rfl dX6_becomes_100 ?_
                  refine lv_topr (y := becC ft d j xn k) (rfl) ?_
                  refine lv_istore (lv' := [(5, .int (becC ft d j xn k)), (4, .int (nI k)), (0, .ref o), (1, .int (nI j)), (2, .int (nI xn)), (3, .int w), (6, .int (nI k))]) hx hb dX6_becomes_103 hl (by decide) rfl (fun ls hl => ?_)
                  have e1 : (becB ft d j xn (k + 1)).1 = nI k := if_pos (Int32.not_le.mp c89)
                  have e2 : (becB ft d j xn (k + 1)).2 = becC ft d j xn k := if_pos (Int32.not_le.mp c89)
                  have hl : lv_has ls 7 [(5, .int (becC ft d j xn k)), (4, .int ((becB ft d j xn (k + 1)).1)), (0, .ref o), (1, .int (nI j)), (2, .int (nI xn)), (3, .int w), (6, .int (nI k))] := by rw [e1]; exact hl
                  have hl : lv_has ls 7 [(5, .int ((becB ft d j xn (k + 1)).2)), (4, .int ((becB ft d j xn (k + 1)).1)), (0, .ref o), (1, .int (nI j)), (2, .int (nI xn)), (3, .int w), (6, .int (nI k))] := by rw [e2]; exact hl
                  refine lv_iinc (v := nI (k + 1)) (lv' := [(6, .int (nI (k + 1))), (5, .int ((becB ft d j xn (k + 1)).2)), (4, .int ((becB ft d j xn (k + 1)).1)), (0, .ref o), (1, .int (nI j)), (2, .int (nI xn)), (3, .int w)]) hx hb dX6_becomes_105 hl (k := 6) rfl (nI_1 k) (by decide) rfl (fun ls hl => ?_)
                  refine lv_goto (tgt := 43) hx hb dX6_becomes_108 (by decide) ?_
                  exact ih43 (k + 1) u_9.1 u_9.2 (nightsF ft xn (upd d (10 + 5 * j + 0) (nI k))) cn (by omega) (by omega) _ _ _ hw (lv_sub hl [3, 4, 5, 6, 2, 1, 0] rfl)
          exact L43 7 0 nm st_ d2 cn2 (by omega) (by omega) _ _ _ hw (lv_sub hl [3, 4, 5, 6, 2, 1, 0] rfl)
        · have c27 := b01_z c27
          refine lv_ldc hx hb hown (hts _ q356) dX6_becomes_30 ?_
          exact s_iret cf hr hlk (nm, st_, d2, cn2) hw (by unfold R_becomes; rw [if_neg (fun z => c27 z.2.2)]) (Nat.le_of_ble_eq_true rfl) (Nat.le_of_ble_eq_true rfl) dX6_becomes_32 hQ
set_option maxRecDepth 100000 in
set_option maxHeartbeats 4000000 in
theorem c_cast {l : Launch} {g : GG} {t : Nat} {lad ad : Nat → Nat} {d cn : DD} {nm st_ : DD} {tr : Nat → Option Nat} {txb : va_W} {ft : TXC} (hF : FitAt g tr txb (cn 0) ft) (hFo : okF ft) (hI : InvH d) {n : Nat} (hn : d 0 = nI n) (hn10 : n ≤ 10) {ni : Nat} (hni : d 1 = nI ni) (h9 : ni ≤ 9999) {o t2 t3 : Nat} {ch : Nat → Nat} {kp tp wt : Int32} {ad2 : Nat → Nat} {d2 cn2 : DD} (x y w : Int32) : Ct l g yX6_cast cX6_cast 8 (Option.some Jvm.ClassFile.FieldType.int) 6 0 0 [.ref o, .int x, .int y, .int w] [bO t2 4 (tF (lad 0) ad2 (d2 0) (d2 9) (d2 5) (d2 6) (d2 7) (d2 1) (d2 8)), bI g (ad2 1) 10 (col d2 0), bI g (ad2 2) 10 (col d2 1), bI g (ad2 3) 10 (col d2 2), bI g (ad2 4) 10 (col d2 3), bI g (ad2 5) 10 (col d2 4), bI g (ad2 6) 3 (rulF d2), bI g (ad2 7) 3 cn2, bO t 4 (tF (lad 0) ad (d 0) (d 9) (d 5) (d 6) (d 7) (d 1) (d 8)), bI g (ad 1) 10 (col d 0), bI g (ad 2) 10 (col d 1), bI g (ad 3) 10 (col d 2), bI g (ad 4) 10 (col d 3), bI g (ad 5) 10 (col d 4), bI g (ad 6) 3 (rulF d), bI g (ad 7) 3 cn, bO (lad 0) 0 ([.ref (lad 1), .ref (lad 2), .ref (lad 3)]), bR g 4 (lad 1) 14 tr, bI g (lad 2) 6 nm, bI g (lad 3) 96 st_, txb, bO o 6 (cF (lad 0) t t3 t2 ch kp tp wt)] (QI g (fun r (_ : DD × DD × DD × DD) => r = R_cast ft d x y w) (fun u => [bO t2 4 (tF (lad 0) ad2 (u.2.2.1 0) (u.2.2.1 9) (u.2.2.1 5) (u.2.2.1 6) (u.2.2.1 7) (u.2.2.1 1) (u.2.2.1 8)), bI g (ad2 1) 10 (col u.2.2.1 0), bI g (ad2 2) 10 (col u.2.2.1 1), bI g (ad2 3) 10 (col u.2.2.1 2), bI g (ad2 4) 10 (col u.2.2.1 3), bI g (ad2 5) 10 (col u.2.2.1 4), bI g (ad2 6) 3 (rulF u.2.2.1), bI g (ad2 7) 3 u.2.2.2, bO t 4 (tF (lad 0) ad (d 0) (d 9) (d 5) (d 6) (d 7) (d 1) (d 8)), bI g (ad 1) 10 (col d 0), bI g (ad 2) 10 (col d 1), bI g (ad 3) 10 (col d 2), bI g (ad 4) 10 (col d 3), bI g (ad 5) 10 (col d 4), bI g (ad 6) 3 (rulF d), bI g (ad 7) 3 cn, bO (lad 0) 0 ([.ref (lad 1), .ref (lad 2), .ref (lad 3)]), bR g 4 (lad 1) 14 tr, bI g (lad 2) 6 u.1, bI g (lad 3) 96 u.2.1, txb, bO o 6 (cF (lad 0) t t3 t2 ch kp tp wt)])) := by
  refine Ct.of (by decide) rfl ?_
  intro p e s m args below meth c A H locs ls Qf cf hr hlk hnm hQ hw hl
  have hx := cf.1
  have hb := cf.2.1
  have hml := cf.2.2.1
  have hown := cf.2.2.2.1
  have hts := cf.2.2.2.2
  have hw : WD g A s H locs [bO t2 4 (tF (lad 0) ad2 (d2 0) (d2 9) (d2 5) (d2 6) (d2 7) (d2 1) (d2 8)), bI g (ad2 1) 10 (col d2 0), bI g (ad2 2) 10 (col d2 1), bI g (ad2 3) 10 (col d2 2), bI g (ad2 4) 10 (col d2 3), bI g (ad2 5) 10 (col d2 4), bI g (ad2 6) 3 (rulF d2), bI g (ad2 7) 3 cn2, bO t 4 (tF (lad 0) ad (d 0) (d 9) (d 5) (d 6) (d 7) (d 1) (d 8)), bI g (ad 1) 10 (col d 0), bI g (ad 2) 10 (col d 1), bI g (ad 3) 10 (col d 2), bI g (ad 4) 10 (col d 3), bI g (ad 5) 10 (col d 4), bI g (ad 6) 3 (rulF d), bI g (ad 7) 3 cn, bO (lad 0) 0 ([.ref (lad 1), .ref (lad 2), .ref (lad 3)]), bR g 4 (lad 1) 14 tr, bI g (lad 2) 6 nm, bI g (lad 3) 96 st_, txb, bO o 6 (cF (lad 0) t t3 t2 ch kp tp wt)] := hw
  have hl : lv_has ls 8 [(0, .ref o), (1, .int x), (2, .int y), (3, .int w)] := hl
  refine lv_aload_n hx hb dX6_cast_0 rfl (lv_at hl 0 rfl) ?_
  refine s_get (v := .ref t) fb6 cf hw 21 rfl 1 rfl q307 rfl dX6_cast_1 ?_
  refine lv_iload_n hx hb dX6_cast_4 rfl (lv_at hl 1 rfl) ?_
  refine s_calli (runVN cf (x_has (cn := cn) (t := t) (lad := lad) (ad := ad) (d := d) (n := n) hn hn10 x) hw [8] (by decide) rfl km_X4_has ki_X4_has q367 (run_recv (ci := 4) (T := TX4) (N := 15) hw 8 rfl rfl) rfl rfl hl.1 rfl dX6_cast_5) hw [8] (by decide) rfl (fun _ => rfl) (fun r_3 u_1 H locs hp_2 hw => ?_)
  have hw : WD g A s H locs [bO t2 4 (tF (lad 0) ad2 (d2 0) (d2 9) (d2 5) (d2 6) (d2 7) (d2 1) (d2 8)), bI g (ad2 1) 10 (col d2 0), bI g (ad2 2) 10 (col d2 1), bI g (ad2 3) 10 (col d2 2), bI g (ad2 4) 10 (col d2 3), bI g (ad2 5) 10 (col d2 4), bI g (ad2 6) 3 (rulF d2), bI g (ad2 7) 3 cn2, bO t 4 (tF (lad 0) ad (d 0) (d 9) (d 5) (d 6) (d 7) (d 1) (d 8)), bI g (ad 1) 10 (col d 0), bI g (ad 2) 10 (col d 1), bI g (ad 3) 10 (col d 2), bI g (ad 4) 10 (col d 3), bI g (ad 5) 10 (col d 4), bI g (ad 6) 3 (rulF d), bI g (ad 7) 3 cn, bO (lad 0) 0 ([.ref (lad 1), .ref (lad 2), .ref (lad 3)]), bR g 4 (lad 1) 14 tr, bI g (lad 2) 6 nm, bI g (lad 3) 96 st_, txb, bO o 6 (cF (lad 0) t t3 t2 ch kp tp wt)] := hw
  subst hp_2
  refine lv_if_eq (tgt := 30) hx hb dX6_cast_8 (by decide) (fun c8 => ?_) (fun c8 => ?_)
  · have c8 := b01_z c8
    refine lv_ldc hx hb hown (hts _ q356) dX6_cast_30 ?_
    exact s_iret cf hr hlk (nm, st_, d2, cn2) hw (by unfold R_cast; rw [if_neg (fun z => c8 z.1)]) (Nat.le_of_ble_eq_true rfl) (Nat.le_of_ble_eq_true rfl) dX6_cast_32 hQ
  · have c8 := b01_n c8
    refine lv_iload_n hx hb dX6_cast_11 rfl (lv_at hl 2 rfl) ?_
    refine lv_iconst (v := 1) hx hb dX6_cast_12 (by decide) ?_
    refine lv_icmp_lt (tgt := 30) hx hb dX6_cast_13 (by decide) (fun c13 => ?_) (fun c13 => ?_)
    · refine lv_ldc hx hb hown (hts _ q356) dX6_cast_30 ?_
      exact s_iret cf hr hlk (nm, st_, d2, cn2) hw (by unfold R_cast; rw [if_neg (fun z => absurd z.2.1.1 (Int32.not_le.mpr c13))]) (Nat.le_of_ble_eq_true rfl) (Nat.le_of_ble_eq_true rfl) dX6_cast_32 hQ
    · refine lv_iload_n hx hb dX6_cast_16 rfl (lv_at hl 2 rfl) ?_
      refine lv_bipush (v := 60) hx hb dX6_cast_17 (by decide) ?_
      refine lv_icmp_gt (tgt := 30) hx hb dX6_cast_19 (by decide) (fun c19 => ?_) (fun c19 => ?_)
      · refine lv_ldc hx hb hown (hts _ q356) dX6_cast_30 ?_
        exact s_iret cf hr hlk (nm, st_, d2, cn2) hw (by unfold R_cast; rw [if_neg (fun z => absurd z.2.1.2 (Int32.not_le.mpr c19))]) (Nat.le_of_ble_eq_true rfl) (Nat.le_of_ble_eq_true rfl) dX6_cast_32 hQ
      · refine lv_iload_n hx hb dX6_cast_22 rfl (lv_at hl 3 rfl) ?_
        refine lv_iconst (v := 1) hx hb dX6_cast_23 (by decide) ?_
        refine s_calli (runS cf (x_isWithin w 1) hw [] (by decide) rfl km_X6_isWithin ks_X6_isWithin q353 rfl rfl hl.1 rfl dX6_cast_24) hw [] (by decide) rfl (fun _ => rfl) (fun r_6 u_4 H locs hp_5 hw => ?_)
        have hw : WD g A s H locs [bO t2 4 (tF (lad 0) ad2 (d2 0) (d2 9) (d2 5) (d2 6) (d2 7) (d2 1) (d2 8)), bI g (ad2 1) 10 (col d2 0), bI g (ad2 2) 10 (col d2 1), bI g (ad2 3) 10 (col d2 2), bI g (ad2 4) 10 (col d2 3), bI g (ad2 5) 10 (col d2 4), bI g (ad2 6) 3 (rulF d2), bI g (ad2 7) 3 cn2, bO t 4 (tF (lad 0) ad (d 0) (d 9) (d 5) (d 6) (d 7) (d 1) (d 8)), bI g (ad 1) 10 (col d 0), bI g (ad 2) 10 (col d 1), bI g (ad 3) 10 (col d 2), bI g (ad 4) 10 (col d 3), bI g (ad 5) 10 (col d 4), bI g (ad 6) 3 (rulF d), bI g (ad 7) 3 cn, bO (lad 0) 0 ([.ref (lad 1), .ref (lad 2), .ref (lad 3)]), bR g 4 (lad 1) 14 tr, bI g (lad 2) 6 nm, bI g (lad 3) 96 st_, txb, bO o 6 (cF (lad 0) t t3 t2 ch kp tp wt)] := hw
        subst hp_5
        refine lv_if_ne (tgt := 33) hx hb dX6_cast_27 (by decide) (fun c27 => ?_) (fun c27 => ?_)
        · have c27 := b01_n c27
          obtain ⟨j, hjn, hxj, hcl⟩ := isH_nat hn hn10 c8
          subst hxj
          have hy1 : 1 ≤ y ∧ y ≤ 60 := ⟨Int32.not_lt.mp c13, Int32.not_lt.mp c19⟩
          obtain ⟨xn, hxn, hyx⟩ := rng_nat (m := 60) (by omega) (Int32.le_trans (by decide) hy1.1) hy1.2
          subst hyx
          have hok : okCB d (nI j) (nI xn) w := ⟨c8, hy1, c27⟩
          refine lv_aload_n hx hb dX6_cast_33 rfl (lv_at hl 0 rfl) ?_
          refine s_get (v := .ref t) fb6 cf hw 21 rfl 1 rfl q307 rfl dX6_cast_34 ?_
          refine lv_iload_n hx hb dX6_cast_37 rfl (lv_at hl 1 rfl) ?_
          refine lv_iload_n hx hb dX6_cast_38 rfl (lv_at hl 2 rfl) ?_
          refine s_calli (runVN cf (x_mostCoal (t := t) (lad := lad) (ad := ad) (d := d) (cn := cn) (n := n) hn hn10 hI (ni := ni) hni xn (by omega) j hjn) hw [8, 9, 12, 14] (by decide) rfl km_X4_mostCoal ki_X4_mostCoal q578 (run_recv (ci := 4) (T := TX4) (N := 15) hw 8 rfl rfl) rfl rfl hl.1 rfl dX6_cast_39) hw [8, 9, 12, 14] (by decide) rfl (fun _ => rfl) (fun r_9 u_7 H locs hp_8 hw => ?_)
          have hw : WD g A s H locs [bO t2 4 (tF (lad 0) ad2 (d2 0) (d2 9) (d2 5) (d2 6) (d2 7) (d2 1) (d2 8)), bI g (ad2 1) 10 (col d2 0), bI g (ad2 2) 10 (col d2 1), bI g (ad2 3) 10 (col d2 2), bI g (ad2 4) 10 (col d2 3), bI g (ad2 5) 10 (col d2 4), bI g (ad2 6) 3 (rulF d2), bI g (ad2 7) 3 cn2, bO t 4 (tF (lad 0) ad (d 0) (d 9) (d 5) (d 6) (d 7) (d 1) (d 8)), bI g (ad 1) 10 (col d 0), bI g (ad 2) 10 (col d 1), bI g (ad 3) 10 (col d 2), bI g (ad 4) 10 (col d 3), bI g (ad 5) 10 (col d 4), bI g (ad 6) 3 (rulF d), bI g (ad 7) 3 cn, bO (lad 0) 0 ([.ref (lad 1), .ref (lad 2), .ref (lad 3)]), bR g 4 (lad 1) 14 tr, bI g (lad 2) 6 nm, bI g (lad 3) 96 st_, txb, bO o 6 (cF (lad 0) t t3 t2 ch kp tp wt)] := hw
          subst hp_8
          refine lv_istore (lv' := [(4, .int (mcF d j ni n xn)), (0, .ref o), (1, .int (nI j)), (2, .int (nI xn)), (3, .int w)]) hx hb dX6_cast_42 hl (by decide) rfl (fun ls hl => ?_)
          refine lv_iconst (v := 0) hx hb dX6_cast_44 (by decide) ?_
          refine lv_istore (lv' := [(5, .int 0), (4, .int (mcF d j ni n xn)), (0, .ref o), (1, .int (nI j)), (2, .int (nI xn)), (3, .int w)]) hx hb dX6_cast_45 hl (by decide) rfl (fun ls hl => ?_)
          refine lv_iconst (v := (-1)) hx hb dX6_cast_47 (by decide) ?_
          refine lv_istore (lv' := [(6, .int (-1)), (5, .int 0), (4, .int (mcF d j ni n xn)), (0, .ref o), (1, .int (nI j)), (2, .int (nI xn)), (3, .int w)]) hx hb dX6_cast_48 hl (by decide) rfl (fun ls hl => ?_)
          refine lv_iconst (v := 0) hx hb dX6_cast_50 (by decide) ?_
          refine lv_istore (lv' := [(7, .int 0), (6, .int (-1)), (5, .int 0), (4, .int (mcF d j ni n xn)), (0, .ref o), (1, .int (nI j)), (2, .int (nI xn)), (3, .int w)]) hx hb dX6_cast_51 hl (by decide) rfl (fun ls hl => ?_)
          have L53 : ∀ (fu : Nat) (k : Nat) (nm st_ d2 cn2 : DD), (k ≤ 100) → (100 < k + fu) → ∀ (H : Heap) (locs : List Loc) (ls : Array Slot), WD g A s H locs [bO t2 4 (tF (lad 0) ad2 (d2 0) (d2 9) (d2 5) (d2 6) (d2 7) (d2 1) (d2 8)), bI g (ad2 1) 10 (col d2 0), bI g (ad2 2) 10 (col d2 1), bI g (ad2 3) 10 (col d2 2), bI g (ad2 4) 10 (col d2 3), bI g (ad2 5) 10 (col d2 4), bI g (ad2 6) 3 (rulF d2), bI g (ad2 7) 3 cn2, bO t 4 (tF (lad 0) ad (d 0) (d 9) (d 5) (d 6) (d 7) (d 1) (d 8)), bI g (ad 1) 10 (col d 0), bI g (ad 2) 10 (col d 1), bI g (ad 3) 10 (col d 2), bI g (ad 4) 10 (col d 3), bI g (ad 5) 10 (col d 4), bI g (ad 6) 3 (rulF d), bI g (ad 7) 3 cn, bO (lad 0) 0 ([.ref (lad 1), .ref (lad 2), .ref (lad 3)]), bR g 4 (lad 1) 14 tr, bI g (lad 2) 6 nm, bI g (lad 3) 96 st_, txb, bO o 6 (cF (lad 0) t t3 t2 ch kp tp wt)] → lv_has ls 8 [(0, .ref o), (1, .int (nI j)), (2, .int (nI xn)), (3, .int w), (4, .int (mcF d j ni n xn)), (5, .int ((castB ft d j xn k).1)), (6, .int ((castB ft d j xn k).2)), (7, .int (nI k))] → W p l e (rmx 6 0 0) s m args below meth c H locs 0 0 Qf (F0 m 53 ls []) := by
            intro fu
            induction fu with
            | zero => intro k nm st_ d2 cn2 hk hfu; exfalso; omega
            | succ fu ih53 =>
              intro k nm st_ d2 cn2 hk hfu H locs ls hw hl
              refine lv_iload hx hb dX6_cast_53 (lv_at hl 7 rfl) ?_
              refine lv_bipush (v := 99) hx hb dX6_cast_55 (by decide) ?_
              refine lv_icmp_gt (tgt := 132) hx hb dX6_cast_57 (by decide) (fun c57 => ?_) (fun c57 => ?_)
              · have hE : castB ft d j xn 100 = castB ft d j xn k := by rw [show (99 : Int32) = nI 99 from rfl, nI_ltI (by omega) (by omega)] at c57; rw [show k = 100 by omega]
                refine lv_iload_n hx hb dX6_cast_132 rfl (lv_at hl 3 rfl) ?_
                refine lv_if_ne (tgt := 141) hx hb dX6_cast_133 (by decide) (fun c133 => ?_) (fun c133 => ?_)
                · refine lv_iload hx hb dX6_cast_141 (lv_at hl 6 rfl) ?_
                  exact s_iret cf hr hlk (nm, st_, d2, cn2) hw (by unfold R_cast; rw [if_pos hok, hcl, nI_clamp (by omega), hE, if_neg c133]) (Nat.le_of_ble_eq_true rfl) (Nat.le_of_ble_eq_true rfl) dX6_cast_143 hQ
                · refine lv_iload hx hb dX6_cast_136 (lv_at hl 5 rfl) ?_
                  refine lv_goto (tgt := 143) hx hb dX6_cast_138 (by decide) ?_
                  exact s_iret cf hr hlk (nm, st_, d2, cn2) hw (by unfold R_cast; rw [if_pos hok, hcl, nI_clamp (by omega), hE, if_pos c133]) (Nat.le_of_ble_eq_true rfl) (Nat.le_of_ble_eq_true rfl) dX6_cast_143 hQ
              · have hlt : k ≤ 99 := by rw [show (99 : Int32) = nI 99 from rfl, nI_ltI (by omega) (by omega)] at c57; omega
                refine lv_iload hx hb dX6_cast_60 (lv_at hl 6 rfl) ?_
                refine lv_iload hx hb dX6_cast_62 (lv_at hl 4 rfl) ?_
                refine lv_icmp_ge (tgt := 132) hx hb dX6_cast_64 (by decide) (fun c64 => ?_) (fun c64 => ?_)
                · have hE : castB ft d j xn 100 = castB ft d j xn k := castB_stop (fun v hv => cast_le hI hn hn10 hni hjn hv xn (by omega)) c64 100 (by omega) (by omega)
                  refine lv_iload_n hx hb dX6_cast_132 rfl (lv_at hl 3 rfl) ?_
                  refine lv_if_ne (tgt := 141) hx hb dX6_cast_133 (by decide) (fun c133 => ?_) (fun c133 => ?_)
                  · refine lv_iload hx hb dX6_cast_141 (lv_at hl 6 rfl) ?_
                    exact s_iret cf hr hlk (nm, st_, d2, cn2) hw (by unfold R_cast; rw [if_pos hok, hcl, nI_clamp (by omega), hE, if_neg c133]) (Nat.le_of_ble_eq_true rfl) (Nat.le_of_ble_eq_true rfl) dX6_cast_143 hQ
                  · refine lv_iload hx hb dX6_cast_136 (lv_at hl 5 rfl) ?_
                    refine lv_goto (tgt := 143) hx hb dX6_cast_138 (by decide) ?_
                    exact s_iret cf hr hlk (nm, st_, d2, cn2) hw (by unfold R_cast; rw [if_pos hok, hcl, nI_clamp (by omega), hE, if_pos c133]) (Nat.le_of_ble_eq_true rfl) (Nat.le_of_ble_eq_true rfl) dX6_cast_143 hQ
                · have hI2 : InvH (upd d (10 + 5 * j + 2) (nI k)) := inv_house hI (by omega) (nI_pos' (by omega)) (nI_le (b := 99) (by omega) (by omega))
                  have hni2 : (upd d (10 + 5 * j + 2) (nI k)) 1 = nI ni := (upd_ne (by omega)).trans hni
                  refine lv_aload_n hx hb dX6_cast_67 rfl (lv_at hl 0 rfl) ?_
                  refine s_get (v := .ref t2) fb6 cf hw 21 rfl 3 rfl q309 rfl dX6_cast_68 ?_
                  refine lv_aload_n hx hb dX6_cast_71 rfl (lv_at hl 0 rfl) ?_
                  refine s_get (v := .ref t) fb6 cf hw 21 rfl 1 rfl q307 rfl dX6_cast_72 ?_
                  refine s_callv (runVN cf (x_become (t := t2) (lad := lad) (ad := ad2) (d := d2) (cn := cn2) (t2 := t) (ad2 := ad) (d2 := d) (cn2 := cn)) hw [0, 1, 2, 3, 4, 5, 6, 7, 8, 9, 10, 11, 12, 13, 14, 15] (by decide) rfl km_X4_become ki_X4_become q541 (run_recv (ci := 4) (T := TX4) (N := 15) hw 0 rfl rfl) rfl rfl hl.1 rfl dX6_cast_75) hw [0, 1, 2, 3, 4, 5, 6, 7, 8, 9, 10, 11, 12, 13, 14, 15] (by decide) rfl (fun _ => rfl) (fun u_10 H locs hp_11 hw => ?_)
                  have hw : WD g A s H locs [bO t2 4 (tF (lad 0) ad2 (d 0) (d 9) (d 5) (d 6) (d 7) (d 1) (d 8)), bI g (ad2 1) 10 (col d 0), bI g (ad2 2) 10 (col d 1), bI g (ad2 3) 10 (col d 2), bI g (ad2 4) 10 (col d 3), bI g (ad2 5) 10 (col d 4), bI g (ad2 6) 3 (rulF d), bI g (ad2 7) 3 cn, bO t 4 (tF (lad 0) ad (d 0) (d 9) (d 5) (d 6) (d 7) (d 1) (d 8)), bI g (ad 1) 10 (col d 0), bI g (ad 2) 10 (col d 1), bI g (ad 3) 10 (col d 2), bI g (ad 4) 10 (col d 3), bI g (ad 5) 10 (col d 4), bI g (ad 6) 3 (rulF d), bI g (ad 7) 3 cn, bO (lad 0) 0 ([.ref (lad 1), .ref (lad 2), .ref (lad 3)]), bR g 4 (lad 1) 14 tr, bI g (lad 2) 6 nm, bI g (lad 3) 96 st_, txb, bO o 6 (cF (lad 0) t t3 t2 ch kp tp wt)] := hw
                  refine lv_aload_n hx hb dX6_cast_78 rfl (lv_at hl 0 rfl) ?_
                  refine s_get (v := .ref t2) fb6 cf hw 21 rfl 3 rfl q309 rfl dX6_cast_79 ?_
                  refine s_getN (v := .ref (ad2 3)) fb4 cf hw 0 rfl 3 rfl q162 rfl dX6_cast_82 ?_
                  refine lv_iload_n hx hb dX6_cast_85 rfl (lv_at hl 1 rfl) ?_
                  refine lv_iload hx hb dX6_cast_86 (lv_at hl 7 rfl) ?_
                  refine s_iast (j := j) cf hw 3 rfl (rfl) (by omega) rfl dX6_cast_88 (fun H locs hw => ?_)
                  have hw : WD g A s H locs [bO t2 4 (tF (lad 0) ad2 (d 0) (d 9) (d 5) (d 6) (d 7) (d 1) (d 8)), bI g (ad2 1) 10 (col d 0), bI g (ad2 2) 10 (col d 1), bI g (ad2 3) 10 (upd (col d 2) j (nI k)), bI g (ad2 4) 10 (col d 3), bI g (ad2 5) 10 (col d 4), bI g (ad2 6) 3 (rulF d), bI g (ad2 7) 3 cn, bO t 4 (tF (lad 0) ad (d 0) (d 9) (d 5) (d 6) (d 7) (d 1) (d 8)), bI g (ad 1) 10 (col d 0), bI g (ad 2) 10 (col d 1), bI g (ad 3) 10 (col d 2), bI g (ad 4) 10 (col d 3), bI g (ad 5) 10 (col d 4), bI g (ad 6) 3 (rulF d), bI g (ad 7) 3 cn, bO (lad 0) 0 ([.ref (lad 1), .ref (lad 2), .ref (lad 3)]), bR g 4 (lad 1) 14 tr, bI g (lad 2) 6 nm, bI g (lad 3) 96 st_, txb, bO o 6 (cF (lad 0) t t3 t2 ch kp tp wt)] := hw
                  have hw : WD g A s H locs [bO t2 4 (tF (lad 0) ad2 ((upd d (10 + 5 * j + 2) (nI k)) 0) ((upd d (10 + 5 * j + 2) (nI k)) 9) ((upd d (10 + 5 * j + 2) (nI k)) 5) ((upd d (10 + 5 * j + 2) (nI k)) 6) ((upd d (10 + 5 * j + 2) (nI k)) 7) ((upd d (10 + 5 * j + 2) (nI k)) 1) ((upd d (10 + 5 * j + 2) (nI k)) 8)), bI g (ad2 1) 10 (col (upd d (10 + 5 * j + 2) (nI k)) 0), bI g (ad2 2) 10 (col (upd d (10 + 5 * j + 2) (nI k)) 1), bI g (ad2 3) 10 (col (upd d (10 + 5 * j + 2) (nI k)) 2), bI g (ad2 4) 10 (col (upd d (10 + 5 * j + 2) (nI k)) 3), bI g (ad2 5) 10 (col (upd d (10 + 5 * j + 2) (nI k)) 4), bI g (ad2 6) 3 (rulF (upd d (10 + 5 * j + 2) (nI k))), bI g (ad2 7) 3 cn, bO t 4 (tF (lad 0) ad (d 0) (d 9) (d 5) (d 6) (d 7) (d 1) (d 8)), bI g (ad 1) 10 (col d 0), bI g (ad 2) 10 (col d 1), bI g (ad 3) 10 (col d 2), bI g (ad 4) 10 (col d 3), bI g (ad 5) 10 (col d 4), bI g (ad 6) 3 (rulF d), bI g (ad 7) 3 cn, bO (lad 0) 0 ([.ref (lad 1), .ref (lad 2), .ref (lad 3)]), bR g 4 (lad 1) 14 tr, bI g (lad 2) 6 nm, bI g (lad 3) 96 st_, txb, bO o 6 (cF (lad 0) t t3 t2 ch kp tp wt)] := tw_wd (rest := [bO t 4 (tF (lad 0) ad (d 0) (d 9) (d 5) (d 6) (d 7) (d 1) (d 8)), bI g (ad 1) 10 (col d 0), bI g (ad 2) 10 (col d 1), bI g (ad 3) 10 (col d 2), bI g (ad 4) 10 (col d 3), bI g (ad 5) 10 (col d 4), bI g (ad 6) 3 (rulF d), bI g (ad 7) 3 cn, bO (lad 0) 0 ([.ref (lad 1), .ref (lad 2), .ref (lad 3)]), bR g 4 (lad 1) 14 tr, bI g (lad 2) 6 nm, bI g (lad 3) 96 st_, txb, bO o 6 (cF (lad 0) t t3 t2 ch kp tp wt)]) (e := upd d (10 + 5 * j + 2) (nI k)) (tw_h j 2 (nI k) (by omega) (tw_id d)) hw
                  refine lv_aload_n hx hb dX6_cast_89 rfl (lv_at hl 0 rfl) ?_
                  refine s_get (v := .ref t2) fb6 cf hw 21 rfl 3 rfl q309 rfl dX6_cast_90 ?_
                  refine lv_iload_n hx hb dX6_cast_93 rfl (lv_at hl 2 rfl) ?_
                  refine s_callv (runVN cf (x_pass (t := t2) (lad := lad) (ad := ad2) (d := (upd d (10 + 5 * j + 2) (nI k))) (cn := cn) (nm := nm) (st_ := st_) (tr := tr) (txb := txb) (ft := ft) hF hFo hI2 hni2 xn (by omega)) hw [0, 1, 2, 3, 4, 5, 6, 7, 16, 17, 18, 19, 20] (by decide) rfl km_X4_pass ki_X4_pass q499 (run_recv (ci := 4) (T := TX4) (N := 15) hw 0 rfl rfl) rfl rfl hl.1 rfl dX6_cast_94) hw [0, 1, 2, 3, 4, 5, 6, 7, 16, 17, 18, 19, 20] (by decide) rfl (fun _ => rfl) (fun u_12 H locs hp_13 hw => ?_)
                  have hw : WD g A s H locs [bO t2 4 (tF (lad 0) ad2 ((nightsF ft xn (upd d (10 + 5 * j + 2) (nI k))) 0) ((nightsF ft xn (upd d (10 + 5 * j + 2) (nI k))) 9) ((nightsF ft xn (upd d (10 + 5 * j + 2) (nI k))) 5) ((nightsF ft xn (upd d (10 + 5 * j + 2) (nI k))) 6) ((nightsF ft xn (upd d (10 + 5 * j + 2) (nI k))) 7) ((nightsF ft xn (upd d (10 + 5 * j + 2) (nI k))) 1) ((nightsF ft xn (upd d (10 + 5 * j + 2) (nI k))) 8)), bI g (ad2 1) 10 (col (nightsF ft xn (upd d (10 + 5 * j + 2) (nI k))) 0), bI g (ad2 2) 10 (col (nightsF ft xn (upd d (10 + 5 * j + 2) (nI k))) 1), bI g (ad2 3) 10 (col (nightsF ft xn (upd d (10 + 5 * j + 2) (nI k))) 2), bI g (ad2 4) 10 (col (nightsF ft xn (upd d (10 + 5 * j + 2) (nI k))) 3), bI g (ad2 5) 10 (col (nightsF ft xn (upd d (10 + 5 * j + 2) (nI k))) 4), bI g (ad2 6) 3 (rulF (nightsF ft xn (upd d (10 + 5 * j + 2) (nI k)))), bI g (ad2 7) 3 cn, bO t 4 (tF (lad 0) ad (d 0) (d 9) (d 5) (d 6) (d 7) (d 1) (d 8)), bI g (ad 1) 10 (col d 0), bI g (ad 2) 10 (col d 1), bI g (ad 3) 10 (col d 2), bI g (ad 4) 10 (col d 3), bI g (ad 5) 10 (col d 4), bI g (ad 6) 3 (rulF d), bI g (ad 7) 3 cn, bO (lad 0) 0 ([.ref (lad 1), .ref (lad 2), .ref (lad 3)]), bR g 4 (lad 1) 14 tr, bI g (lad 2) 6 u_12.1, bI g (lad 3) 96 u_12.2, txb, bO o 6 (cF (lad 0) t t3 t2 ch kp tp wt)] := hw
                  refine lv_aload_n hx hb dX6_cast_97 rfl (lv_at hl 0 rfl) ?_
                  refine s_get (v := .ref t2) fb6 cf hw 21 rfl 3 rfl q309 rfl dX6_cast_98 ?_
                  refine s_getN (v := .ref (ad2 4)) fb4 cf hw 0 rfl 4 rfl q165 rfl dX6_cast_101 ?_
                  refine lv_iload_n hx hb dX6_cast_104 rfl (lv_at hl 1 rfl) ?_
                  refine s_iald (j := j) cf hw 4 rfl (rfl) (by omega) rfl dX6_cast_105 ?_
                  refine lv_topr (y := (nightsF ft xn (upd d (10 + 5 * j + 2) (nI k))) (10 + 5 * j + 3)) (rfl) ?_
                  refine lv_topr (y := castC ft d j xn k) (rfl) ?_
                  refine lv_iload hx hb dX6_cast_106 (lv_at hl 6 rfl) ?_
                  refine lv_icmp_le (tgt := 126) hx hb dX6_cast_108 (by decide) (fun c108 => ?_) (fun c108 => ?_)
                  · have e1 : (castB ft d j xn (k + 1)).1 = (castB ft d j xn k).1 := if_neg (Int32.not_lt.mpr c108)
                    have e2 : (castB ft d j xn (k + 1)).2 = (castB ft d j xn k).2 := if_neg (Int32.not_lt.mpr c108)
                    have hl : lv_has ls 8 [(0, .ref o), (1, .int (nI j)), (2, .int (nI xn)), (3, .int w), (4, .int (mcF d j ni n xn)), (5, .int ((castB ft d j xn (k + 1)).1)), (6, .int ((castB ft d j xn k).2)), (7, .int (nI k))] := by rw [e1]; exact hl
                    have hl : lv_has ls 8 [(0, .ref o), (1, .int (nI j)), (2, .int (nI xn)), (3, .int w), (4, .int (mcF d j ni n xn)), (5, .int ((castB ft d j xn (k + 1)).1)), (6, .int ((castB ft d j xn (k + 1)).2)), (7, .int (nI k))] := by rw [e2]; exact hl
                    refine lv_iinc (v := nI (k + 1)) (lv' := [(7, .int (nI (k + 1))), (0, .ref o), (1, .int (nI j)), (2, .int (nI xn)), (3, .int w), (4, .int (mcF d j ni n xn)), (5, .int ((castB ft d j xn (k + 1)).1)), (6, .int ((castB ft d j xn (k + 1)).2))]) hx hb dX6_cast_126 hl (k := 7) rfl (nI_1 k) (by decide) rfl (fun ls hl => ?_)
                    refine lv_goto (tgt := 53) hx hb dX6_cast_129 (by decide) ?_
                    exact ih53 (k + 1) u_12.1 u_12.2 (nightsF ft xn (upd d (10 + 5 * j + 2) (nI k))) cn (by omega) (by omega) _ _ _ hw (lv_sub hl [1, 2, 3, 4, 5, 6, 7, 0] rfl)
                  · refine lv_iload hx hb dX6_cast_111 (lv_at hl 7 rfl) ?_
                    refine lv_istore (lv' := [(5, .int (nI k)), (0, .ref o), (1, .int (nI j)), (2, .int (nI xn)), (3, .int w), (4, .int (mcF d j ni n xn)), (6, .int ((castB ft d j xn k).2)), (7, .int (nI k))]) hx hb dX6_cast_113 hl (by decide) rfl (fun ls hl => ?_)
                    refine lv_aload_n hx hb dX6_cast_115 rfl (lv_at hl 1 rfl) ?_
                    refine s_get (v := .ref t2) fb6 cf hw 21 rfl 3 rfl q309 rfl dX6_cast_116 ?_
                    refine s_getN (v := .ref (ad2 4)) fb4 cf hw 0 rfl 4 rfl q165 rfl dX6_cast_119 ?_
                    refine lv_iload_n hx hb dX6_cast_122 rfl (lv_at hl 2 rfl) ?_
                    refine s_iald (j := j) cf hw 4 rfl (rfl) (by omega) rfl dX6_cast_123 ?_
                    refine lv_topr (y := (nightsF ft xn (upd d (10 + 5 * j + 2) (nI k))) (10 + 5 * j + 3)) (rfl) ?_
                    refine lv_topr (y := castC ft d j xn k) (rfl) ?_
                    refine lv_istore (lv' := [(6, .int (castC ft d j xn k)), (5, .int (nI k)), (0, .ref o), (1, .int (nI j)), (2, .int (nI xn)), (3, .int w), (4, .int (mcF d j ni n xn)), (7, .int (nI k))]) hx hb dX6_cast_124 hl (by decide) rfl (fun ls hl => ?_)
                    have e1 : (castB ft d j xn (k + 1)).1 = nI k := if_pos (Int32.not_le.mp c108)
                    have e2 : (castB ft d j xn (k + 1)).2 = castC ft d j xn k := if_pos (Int32.not_le.mp c108)
                    have hl : lv_has ls 8 [(6, .int (castC ft d j xn k)), (5, .int ((castB ft d j xn (k + 1)).1)), (0, .ref o), (1, .int (nI j)), (2, .int (nI xn)), (3, .int w), (4, .int (mcF d j ni n xn)), (7, .int (nI k))] := by rw [e1]; exact hl
                    have hl : lv_has ls 8 [(6, .int ((castB ft d j xn (k + 1)).2)), (5, .int ((castB ft d j xn (k + 1)).1)), (0, .ref o), (1, .int (nI j)), (2, .int (nI xn)), (3, .int w), (4, .int (mcF d j ni n xn)), (7, .int (nI k))] := by rw [e2]; exact hl
                    refine lv_iinc (v := nI (k + 1)) (lv' := [(7, .int (nI (k + 1))), (6, .int ((castB ft d j xn (k + 1)).2)), (5, .int ((castB ft d j xn (k + 1)).1)), (0, .ref o), (1, .int (nI j)), (2, .int (nI xn)), (3, .int w), (4, .int (mcF d j ni n xn))]) hx hb dX6_cast_126 hl (k := 7) rfl (nI_1 k) (by decide) rfl (fun ls hl => ?_)
                    refine lv_goto (tgt := 53) hx hb dX6_cast_129 (by decide) ?_
                    exact ih53 (k + 1) u_12.1 u_12.2 (nightsF ft xn (upd d (10 + 5 * j + 2) (nI k))) cn (by omega) (by omega) _ _ _ hw (lv_sub hl [3, 4, 5, 6, 7, 2, 1, 0] rfl)
          exact L53 101 0 nm st_ d2 cn2 (by omega) (by omega) _ _ _ hw (lv_sub hl [4, 5, 6, 7, 3, 2, 1, 0] rfl)
        · have c27 := b01_z c27
          refine lv_ldc hx hb hown (hts _ q356) dX6_cast_30 ?_
          exact s_iret cf hr hlk (nm, st_, d2, cn2) hw (by unfold R_cast; rw [if_neg (fun z => c27 z.2.2)]) (Nat.le_of_ble_eq_true rfl) (Nat.le_of_ble_eq_true rfl) dX6_cast_32 hQ
set_option maxRecDepth 100000 in
set_option maxHeartbeats 4000000 in
theorem c_ears {l : Launch} {g : GG} {t : Nat} {lad ad : Nat → Nat} {d cn : DD} {nm st_ : DD} {tr : Nat → Option Nat} {txb : va_W} {ft : TXC} (hF : FitAt g tr txb (cn 0) ft) (hFo : okF ft) (hI : InvH d) {n : Nat} (hn : d 0 = nI n) (hn10 : n ≤ 10) {ni : Nat} (hni : d 1 = nI ni) (h9 : ni ≤ 9999) {o t2 t3 : Nat} {ch : Nat → Nat} {kp tp wt : Int32} {ad2 : Nat → Nat} {d2 cn2 : DD} (y v : Int32) : Ct l g yX6_ears cX6_ears 5 (Option.some Jvm.ClassFile.FieldType.int) 6 0 0 [.ref o, .int y, .int v] [bO t2 4 (tF (lad 0) ad2 (d2 0) (d2 9) (d2 5) (d2 6) (d2 7) (d2 1) (d2 8)), bI g (ad2 1) 10 (col d2 0), bI g (ad2 2) 10 (col d2 1), bI g (ad2 3) 10 (col d2 2), bI g (ad2 4) 10 (col d2 3), bI g (ad2 5) 10 (col d2 4), bI g (ad2 6) 3 (rulF d2), bI g (ad2 7) 3 cn2, bO t 4 (tF (lad 0) ad (d 0) (d 9) (d 5) (d 6) (d 7) (d 1) (d 8)), bI g (ad 1) 10 (col d 0), bI g (ad 2) 10 (col d 1), bI g (ad 3) 10 (col d 2), bI g (ad 4) 10 (col d 3), bI g (ad 5) 10 (col d 4), bI g (ad 6) 3 (rulF d), bI g (ad 7) 3 cn, bO (lad 0) 0 ([.ref (lad 1), .ref (lad 2), .ref (lad 3)]), bR g 4 (lad 1) 14 tr, bI g (lad 2) 6 nm, bI g (lad 3) 96 st_, txb, bO o 6 (cF (lad 0) t t3 t2 ch kp tp wt)] (QI g (fun r (_ : DD × DD × DD × DD) => r = R_ears ft d y v) (fun u => [bO t2 4 (tF (lad 0) ad2 (u.2.2.1 0) (u.2.2.1 9) (u.2.2.1 5) (u.2.2.1 6) (u.2.2.1 7) (u.2.2.1 1) (u.2.2.1 8)), bI g (ad2 1) 10 (col u.2.2.1 0), bI g (ad2 2) 10 (col u.2.2.1 1), bI g (ad2 3) 10 (col u.2.2.1 2), bI g (ad2 4) 10 (col u.2.2.1 3), bI g (ad2 5) 10 (col u.2.2.1 4), bI g (ad2 6) 3 (rulF u.2.2.1), bI g (ad2 7) 3 u.2.2.2, bO t 4 (tF (lad 0) ad (d 0) (d 9) (d 5) (d 6) (d 7) (d 1) (d 8)), bI g (ad 1) 10 (col d 0), bI g (ad 2) 10 (col d 1), bI g (ad 3) 10 (col d 2), bI g (ad 4) 10 (col d 3), bI g (ad 5) 10 (col d 4), bI g (ad 6) 3 (rulF d), bI g (ad 7) 3 cn, bO (lad 0) 0 ([.ref (lad 1), .ref (lad 2), .ref (lad 3)]), bR g 4 (lad 1) 14 tr, bI g (lad 2) 6 u.1, bI g (lad 3) 96 u.2.1, txb, bO o 6 (cF (lad 0) t t3 t2 ch kp tp wt)])) := by
  refine Ct.of (by decide) rfl ?_
  intro p e s m args below meth c A H locs ls Qf cf hr hlk hnm hQ hw hl
  have hx := cf.1
  have hb := cf.2.1
  have hml := cf.2.2.1
  have hown := cf.2.2.2.1
  have hts := cf.2.2.2.2
  have hw : WD g A s H locs [bO t2 4 (tF (lad 0) ad2 (d2 0) (d2 9) (d2 5) (d2 6) (d2 7) (d2 1) (d2 8)), bI g (ad2 1) 10 (col d2 0), bI g (ad2 2) 10 (col d2 1), bI g (ad2 3) 10 (col d2 2), bI g (ad2 4) 10 (col d2 3), bI g (ad2 5) 10 (col d2 4), bI g (ad2 6) 3 (rulF d2), bI g (ad2 7) 3 cn2, bO t 4 (tF (lad 0) ad (d 0) (d 9) (d 5) (d 6) (d 7) (d 1) (d 8)), bI g (ad 1) 10 (col d 0), bI g (ad 2) 10 (col d 1), bI g (ad 3) 10 (col d 2), bI g (ad 4) 10 (col d 3), bI g (ad 5) 10 (col d 4), bI g (ad 6) 3 (rulF d), bI g (ad 7) 3 cn, bO (lad 0) 0 ([.ref (lad 1), .ref (lad 2), .ref (lad 3)]), bR g 4 (lad 1) 14 tr, bI g (lad 2) 6 nm, bI g (lad 3) 96 st_, txb, bO o 6 (cF (lad 0) t t3 t2 ch kp tp wt)] := hw
  have hl : lv_has ls 5 [(0, .ref o), (1, .int y), (2, .int v)] := hl
  refine lv_iload_n hx hb dX6_ears_0 rfl (lv_at hl 1 rfl) ?_
  refine lv_bipush (v := 60) hx hb dX6_ears_1 (by decide) ?_
  refine s_calli (runS cf (x_isWithin y 60) hw [] (by decide) rfl km_X6_isWithin ks_X6_isWithin q353 rfl rfl hl.1 rfl dX6_ears_3) hw [] (by decide) rfl (fun _ => rfl) (fun r_3 u_1 H locs hp_2 hw => ?_)
  have hw : WD g A s H locs [bO t2 4 (tF (lad 0) ad2 (d2 0) (d2 9) (d2 5) (d2 6) (d2 7) (d2 1) (d2 8)), bI g (ad2 1) 10 (col d2 0), bI g (ad2 2) 10 (col d2 1), bI g (ad2 3) 10 (col d2 2), bI g (ad2 4) 10 (col d2 3), bI g (ad2 5) 10 (col d2 4), bI g (ad2 6) 3 (rulF d2), bI g (ad2 7) 3 cn2, bO t 4 (tF (lad 0) ad (d 0) (d 9) (d 5) (d 6) (d 7) (d 1) (d 8)), bI g (ad 1) 10 (col d 0), bI g (ad 2) 10 (col d 1), bI g (ad 3) 10 (col d 2), bI g (ad 4) 10 (col d 3), bI g (ad 5) 10 (col d 4), bI g (ad 6) 3 (rulF d), bI g (ad 7) 3 cn, bO (lad 0) 0 ([.ref (lad 1), .ref (lad 2), .ref (lad 3)]), bR g 4 (lad 1) 14 tr, bI g (lad 2) 6 nm, bI g (lad 3) 96 st_, txb, bO o 6 (cF (lad 0) t t3 t2 ch kp tp wt)] := hw
  subst hp_2
  refine lv_if_eq (tgt := 18) hx hb dX6_ears_6 (by decide) (fun c6 => ?_) (fun c6 => ?_)
  · have c6 := b01_z c6
    refine lv_ldc hx hb hown (hts _ q356) dX6_ears_18 ?_
    exact s_iret cf hr hlk (nm, st_, d2, cn2) hw (by unfold R_ears; rw [if_neg (fun z => c6 z.1)]) (Nat.le_of_ble_eq_true rfl) (Nat.le_of_ble_eq_true rfl) dX6_ears_20 hQ
  · have c6 := b01_n c6
    refine lv_iload_n hx hb dX6_ears_9 rfl (lv_at hl 2 rfl) ?_
    refine lv_ldc hx hb hown (hts _ q591) dX6_ears_10 ?_
    refine s_calli (runS cf (x_isWithin v 99999) hw [] (by decide) rfl km_X6_isWithin ks_X6_isWithin q353 rfl rfl hl.1 rfl dX6_ears_12) hw [] (by decide) rfl (fun _ => rfl) (fun r_6 u_4 H locs hp_5 hw => ?_)
    have hw : WD g A s H locs [bO t2 4 (tF (lad 0) ad2 (d2 0) (d2 9) (d2 5) (d2 6) (d2 7) (d2 1) (d2 8)), bI g (ad2 1) 10 (col d2 0), bI g (ad2 2) 10 (col d2 1), bI g (ad2 3) 10 (col d2 2), bI g (ad2 4) 10 (col d2 3), bI g (ad2 5) 10 (col d2 4), bI g (ad2 6) 3 (rulF d2), bI g (ad2 7) 3 cn2, bO t 4 (tF (lad 0) ad (d 0) (d 9) (d 5) (d 6) (d 7) (d 1) (d 8)), bI g (ad 1) 10 (col d 0), bI g (ad 2) 10 (col d 1), bI g (ad 3) 10 (col d 2), bI g (ad 4) 10 (col d 3), bI g (ad 5) 10 (col d 4), bI g (ad 6) 3 (rulF d), bI g (ad 7) 3 cn, bO (lad 0) 0 ([.ref (lad 1), .ref (lad 2), .ref (lad 3)]), bR g 4 (lad 1) 14 tr, bI g (lad 2) 6 nm, bI g (lad 3) 96 st_, txb, bO o 6 (cF (lad 0) t t3 t2 ch kp tp wt)] := hw
    subst hp_5
    refine lv_if_ne (tgt := 21) hx hb dX6_ears_15 (by decide) (fun c15 => ?_) (fun c15 => ?_)
    · have c15 := b01_n c15
      have hok : (0 ≤ y ∧ y ≤ 60) ∧ (0 ≤ v ∧ v ≤ 99999) := ⟨c6, c15⟩
      obtain ⟨xn, hxn, hyx⟩ := rng_nat (m := 60) (by omega) c6.1 c6.2
      subst hyx
      refine lv_iconst (v := 0) hx hb dX6_ears_21 (by decide) ?_
      refine lv_istore_n (lv' := [(3, .int 0), (0, .ref o), (1, .int (nI xn)), (2, .int v)]) hx hb dX6_ears_22 rfl hl (by decide) rfl (fun ls hl => ?_)
      have L23 : ∀ (fu : Nat) (k : Nat) (nm st_ d2 cn2 : DD), (k ≤ 100) → (100 < k + fu) → (∀ i, i < k → ¬ earC ft d xn i ≤ v) → ∀ (H : Heap) (locs : List Loc) (ls : Array Slot), WD g A s H locs [bO t2 4 (tF (lad 0) ad2 (d2 0) (d2 9) (d2 5) (d2 6) (d2 7) (d2 1) (d2 8)), bI g (ad2 1) 10 (col d2 0), bI g (ad2 2) 10 (col d2 1), bI g (ad2 3) 10 (col d2 2), bI g (ad2 4) 10 (col d2 3), bI g (ad2 5) 10 (col d2 4), bI g (ad2 6) 3 (rulF d2), bI g (ad2 7) 3 cn2, bO t 4 (tF (lad 0) ad (d 0) (d 9) (d 5) (d 6) (d 7) (d 1) (d 8)), bI g (ad 1) 10 (col d 0), bI g (ad 2) 10 (col d 1), bI g (ad 3) 10 (col d 2), bI g (ad 4) 10 (col d 3), bI g (ad 5) 10 (col d 4), bI g (ad 6) 3 (rulF d), bI g (ad 7) 3 cn, bO (lad 0) 0 ([.ref (lad 1), .ref (lad 2), .ref (lad 3)]), bR g 4 (lad 1) 14 tr, bI g (lad 2) 6 nm, bI g (lad 3) 96 st_, txb, bO o 6 (cF (lad 0) t t3 t2 ch kp tp wt)] → lv_has ls 5 [(0, .ref o), (1, .int (nI xn)), (2, .int v), (3, .int (nI k))] → W p l e (rmx 6 0 0) s m args below meth c H locs 0 0 Qf (F0 m 23 ls []) := by
        intro fu
        induction fu with
        | zero => intro k nm st_ d2 cn2 hk hfu hno; exfalso; omega
        | succ fu ih23 =>
          intro k nm st_ d2 cn2 hk hfu hno H locs ls hw hl
          refine lv_iload_n hx hb dX6_ears_23 rfl (lv_at hl 3 rfl) ?_
          refine lv_bipush (v := 99) hx hb dX6_ears_24 (by decide) ?_
          refine lv_icmp_gt (tgt := 103) hx hb dX6_ears_26 (by decide) (fun c26 => ?_) (fun c26 => ?_)
          · have hk2 : k = 100 := by rw [show (99 : Int32) = nI 99 from rfl, nI_ltI (by omega) (by omega)] at c26; omega
            refine lv_ldc hx hb hown (hts _ q552) dX6_ears_103 ?_
            exact s_iret cf hr hlk (nm, st_, d2, cn2) hw (by unfold R_ears; rw [if_pos hok, nI_clamp (by omega)]; exact (earB_none (fun i hi => hno i (by omega)) 100).symm) (Nat.le_of_ble_eq_true rfl) (Nat.le_of_ble_eq_true rfl) dX6_ears_105 hQ
          · have hkl : k ≤ 99 := by rw [show (99 : Int32) = nI 99 from rfl, nI_ltI (by omega) (by omega)] at c26; omega
            have hI2 : InvH (upd d 2 (nI k)) := inv_upd hI (fun u hu => by cases hu; exact ⟨nI_pos' (by omega), nI_le (b := 99) (by omega) (by omega)⟩)
            have hni2 : (upd d 2 (nI k)) 1 = nI ni := (upd_ne (by omega)).trans hni
            refine lv_aload_n hx hb dX6_ears_29 rfl (lv_at hl 0 rfl) ?_
            refine s_get (v := .ref t2) fb6 cf hw 21 rfl 3 rfl q309 rfl dX6_ears_30 ?_
            refine lv_aload_n hx hb dX6_ears_33 rfl (lv_at hl 0 rfl) ?_
            refine s_get (v := .ref t) fb6 cf hw 21 rfl 1 rfl q307 rfl dX6_ears_34 ?_
            refine s_callv (runVN cf (x_become (t := t2) (lad := lad) (ad := ad2) (d := d2) (cn := cn2) (t2 := t) (ad2 := ad) (d2 := d) (cn2 := cn)) hw [0, 1, 2, 3, 4, 5, 6, 7, 8, 9, 10, 11, 12, 13, 14, 15] (by decide) rfl km_X4_become ki_X4_become q541 (run_recv (ci := 4) (T := TX4) (N := 15) hw 0 rfl rfl) rfl rfl hl.1 rfl dX6_ears_37) hw [0, 1, 2, 3, 4, 5, 6, 7, 8, 9, 10, 11, 12, 13, 14, 15] (by decide) rfl (fun _ => rfl) (fun u_7 H locs hp_8 hw => ?_)
            have hw : WD g A s H locs [bO t2 4 (tF (lad 0) ad2 (d 0) (d 9) (d 5) (d 6) (d 7) (d 1) (d 8)), bI g (ad2 1) 10 (col d 0), bI g (ad2 2) 10 (col d 1), bI g (ad2 3) 10 (col d 2), bI g (ad2 4) 10 (col d 3), bI g (ad2 5) 10 (col d 4), bI g (ad2 6) 3 (rulF d), bI g (ad2 7) 3 cn, bO t 4 (tF (lad 0) ad (d 0) (d 9) (d 5) (d 6) (d 7) (d 1) (d 8)), bI g (ad 1) 10 (col d 0), bI g (ad 2) 10 (col d 1), bI g (ad 3) 10 (col d 2), bI g (ad 4) 10 (col d 3), bI g (ad 5) 10 (col d 4), bI g (ad 6) 3 (rulF d), bI g (ad 7) 3 cn, bO (lad 0) 0 ([.ref (lad 1), .ref (lad 2), .ref (lad 3)]), bR g 4 (lad 1) 14 tr, bI g (lad 2) 6 nm, bI g (lad 3) 96 st_, txb, bO o 6 (cF (lad 0) t t3 t2 ch kp tp wt)] := hw
            refine lv_aload_n hx hb dX6_ears_40 rfl (lv_at hl 0 rfl) ?_
            refine s_get (v := .ref t2) fb6 cf hw 21 rfl 3 rfl q309 rfl dX6_ears_41 ?_
            refine s_getN (v := .ref (ad2 6)) fb4 cf hw 0 rfl 6 rfl q170 rfl dX6_ears_44 ?_
            refine lv_iconst (v := 0) hx hb dX6_ears_47 (by decide) ?_
            refine lv_iload_n hx hb dX6_ears_48 rfl (lv_at hl 3 rfl) ?_
            refine s_iast (j := 0) cf hw 6 rfl (rfl) (by decide) rfl dX6_ears_49 (fun H locs hw => ?_)
            have hw : WD g A s H locs [bO t2 4 (tF (lad 0) ad2 (d 0) (d 9) (d 5) (d 6) (d 7) (d 1) (d 8)), bI g (ad2 1) 10 (col d 0), bI g (ad2 2) 10 (col d 1), bI g (ad2 3) 10 (col d 2), bI g (ad2 4) 10 (col d 3), bI g (ad2 5) 10 (col d 4), bI g (ad2 6) 3 (upd (rulF d) 0 (nI k)), bI g (ad2 7) 3 cn, bO t 4 (tF (lad 0) ad (d 0) (d 9) (d 5) (d 6) (d 7) (d 1) (d 8)), bI g (ad 1) 10 (col d 0), bI g (ad 2) 10 (col d 1), bI g (ad 3) 10 (col d 2), bI g (ad 4) 10 (col d 3), bI g (ad 5) 10 (col d 4), bI g (ad 6) 3 (rulF d), bI g (ad 7) 3 cn, bO (lad 0) 0 ([.ref (lad 1), .ref (lad 2), .ref (lad 3)]), bR g 4 (lad 1) 14 tr, bI g (lad 2) 6 nm, bI g (lad 3) 96 st_, txb, bO o 6 (cF (lad 0) t t3 t2 ch kp tp wt)] := hw
            have hw : WD g A s H locs [bO t2 4 (tF (lad 0) ad2 (d 0) (d 9) (d 5) (d 6) (d 7) (d 1) (d 8)), bI g (ad2 1) 10 (col d 0), bI g (ad2 2) 10 (col d 1), bI g (ad2 3) 10 (col d 2), bI g (ad2 4) 10 (col d 3), bI g (ad2 5) 10 (col d 4), bI g (ad2 6) 3 (rulF (upd d (2 + 0) (nI k))), bI g (ad2 7) 3 cn, bO t 4 (tF (lad 0) ad (d 0) (d 9) (d 5) (d 6) (d 7) (d 1) (d 8)), bI g (ad 1) 10 (col d 0), bI g (ad 2) 10 (col d 1), bI g (ad 3) 10 (col d 2), bI g (ad 4) 10 (col d 3), bI g (ad 5) 10 (col d 4), bI g (ad 6) 3 (rulF d), bI g (ad 7) 3 cn, bO (lad 0) 0 ([.ref (lad 1), .ref (lad 2), .ref (lad 3)]), bR g 4 (lad 1) 14 tr, bI g (lad 2) 6 nm, bI g (lad 3) 96 st_, txb, bO o 6 (cF (lad 0) t t3 t2 ch kp tp wt)] := hw.cong (f' := rulF (upd d (2 + 0) (nI k))) 6 rfl (rul_upd d (w := 0) (by omega) (nI k))
            have hw : WD g A s H locs [bO t2 4 (tF (lad 0) ad2 ((upd d 2 (nI k)) 0) ((upd d 2 (nI k)) 9) ((upd d 2 (nI k)) 5) ((upd d 2 (nI k)) 6) ((upd d 2 (nI k)) 7) ((upd d 2 (nI k)) 1) ((upd d 2 (nI k)) 8)), bI g (ad2 1) 10 (col (upd d 2 (nI k)) 0), bI g (ad2 2) 10 (col (upd d 2 (nI k)) 1), bI g (ad2 3) 10 (col (upd d 2 (nI k)) 2), bI g (ad2 4) 10 (col (upd d 2 (nI k)) 3), bI g (ad2 5) 10 (col (upd d 2 (nI k)) 4), bI g (ad2 6) 3 (rulF (upd d 2 (nI k))), bI g (ad2 7) 3 cn, bO t 4 (tF (lad 0) ad (d 0) (d 9) (d 5) (d 6) (d 7) (d 1) (d 8)), bI g (ad 1) 10 (col d 0), bI g (ad 2) 10 (col d 1), bI g (ad 3) 10 (col d 2), bI g (ad 4) 10 (col d 3), bI g (ad 5) 10 (col d 4), bI g (ad 6) 3 (rulF d), bI g (ad 7) 3 cn, bO (lad 0) 0 ([.ref (lad 1), .ref (lad 2), .ref (lad 3)]), bR g 4 (lad 1) 14 tr, bI g (lad 2) 6 nm, bI g (lad 3) 96 st_, txb, bO o 6 (cF (lad 0) t t3 t2 ch kp tp wt)] := tw_wd (rest := [bO t 4 (tF (lad 0) ad (d 0) (d 9) (d 5) (d 6) (d 7) (d 1) (d 8)), bI g (ad 1) 10 (col d 0), bI g (ad 2) 10 (col d 1), bI g (ad 3) 10 (col d 2), bI g (ad 4) 10 (col d 3), bI g (ad 5) 10 (col d 4), bI g (ad 6) 3 (rulF d), bI g (ad 7) 3 cn, bO (lad 0) 0 ([.ref (lad 1), .ref (lad 2), .ref (lad 3)]), bR g 4 (lad 1) 14 tr, bI g (lad 2) 6 nm, bI g (lad 3) 96 st_, txb, bO o 6 (cF (lad 0) t t3 t2 ch kp tp wt)]) (e := upd d (2 + 0) (nI k)) (tw_rule (w := 0) (by omega)) hw
            refine lv_iconst (v := 0) hx hb dX6_ears_50 (by decide) ?_
            refine lv_istore (lv' := [(4, .int 0), (0, .ref o), (1, .int (nI xn)), (2, .int v), (3, .int (nI k))]) hx hb dX6_ears_51 hl (by decide) rfl (fun ls hl => ?_)
            have L53 : ∀ (fu : Nat) (m_ : Nat) (nm st_ : DD), (m_ ≤ xn) → (xn < m_ + fu) → ∀ (H : Heap) (locs : List Loc) (ls : Array Slot), WD g A s H locs [bO t2 4 (tF (lad 0) ad2 ((nightsF ft m_ (upd d 2 (nI k))) 0) ((nightsF ft m_ (upd d 2 (nI k))) 9) ((nightsF ft m_ (upd d 2 (nI k))) 5) ((nightsF ft m_ (upd d 2 (nI k))) 6) ((nightsF ft m_ (upd d 2 (nI k))) 7) ((nightsF ft m_ (upd d 2 (nI k))) 1) ((nightsF ft m_ (upd d 2 (nI k))) 8)), bI g (ad2 1) 10 (col (nightsF ft m_ (upd d 2 (nI k))) 0), bI g (ad2 2) 10 (col (nightsF ft m_ (upd d 2 (nI k))) 1), bI g (ad2 3) 10 (col (nightsF ft m_ (upd d 2 (nI k))) 2), bI g (ad2 4) 10 (col (nightsF ft m_ (upd d 2 (nI k))) 3), bI g (ad2 5) 10 (col (nightsF ft m_ (upd d 2 (nI k))) 4), bI g (ad2 6) 3 (rulF (nightsF ft m_ (upd d 2 (nI k)))), bI g (ad2 7) 3 cn, bO t 4 (tF (lad 0) ad (d 0) (d 9) (d 5) (d 6) (d 7) (d 1) (d 8)), bI g (ad 1) 10 (col d 0), bI g (ad 2) 10 (col d 1), bI g (ad 3) 10 (col d 2), bI g (ad 4) 10 (col d 3), bI g (ad 5) 10 (col d 4), bI g (ad 6) 3 (rulF d), bI g (ad 7) 3 cn, bO (lad 0) 0 ([.ref (lad 1), .ref (lad 2), .ref (lad 3)]), bR g 4 (lad 1) 14 tr, bI g (lad 2) 6 nm, bI g (lad 3) 96 st_, txb, bO o 6 (cF (lad 0) t t3 t2 ch kp tp wt)] → lv_has ls 5 [(0, .ref o), (1, .int (nI xn)), (2, .int v), (3, .int (nI k)), (4, .int (nI m_))] → W p l e (rmx 6 0 0) s m args below meth c H locs 0 0 Qf (F0 m 53 ls []) := by
              intro fu
              induction fu with
              | zero => intro m_ nm st_ hm hfm; exfalso; omega
              | succ fu ih53 =>
                intro m_ nm st_ hm hfm H locs ls hw hl
                refine lv_iload hx hb dX6_ears_53 (lv_at hl 4 rfl) ?_
                refine lv_iload_n hx hb dX6_ears_55 rfl (lv_at hl 1 rfl) ?_
                refine lv_icmp_ge (tgt := 84) hx hb dX6_ears_56 (by decide) (fun c56 => ?_) (fun c56 => ?_)
                · have hm2 : m_ = xn := by have := nI_le_of (by omega) c56 (by omega); omega
                  refine lv_aload_n hx hb dX6_ears_84 rfl (lv_at hl 0 rfl) ?_
                  refine s_get (v := .ref t2) fb6 cf hw 21 rfl 3 rfl q309 rfl dX6_ears_85 ?_
                  refine s_getN (v := .int ((nightsF ft m_ (upd d 2 (nI k))) 6)) fb4 cf hw 0 rfl 11 rfl q180 rfl dX6_ears_88 ?_
                  refine lv_iload_n hx hb dX6_ears_91 rfl (lv_at hl 2 rfl) ?_
                  refine lv_icmp_gt (tgt := 97) hx hb dX6_ears_92 (by decide) (fun c92 => ?_) (fun c92 => ?_)
                  · have hnk : ¬ earC ft d xn k ≤ v := ear_hi (m := m_) hI2 (by omega) (Int32.not_le.mpr c92)
                    have hno2 : ∀ i, i < k + 1 → ¬ earC ft d xn i ≤ v := fun i hi => by rcases Nat.lt_or_ge i k with z | z; exact hno i z; rw [show i = k by omega]; exact hnk
                    refine lv_iinc (v := nI (k + 1)) (lv' := [(3, .int (nI (k + 1))), (0, .ref o), (1, .int (nI xn)), (2, .int v), (4, .int (nI m_))]) hx hb dX6_ears_97 hl (k := 3) rfl (nI_1 k) (by decide) rfl (fun ls hl => ?_)
                    refine lv_goto (tgt := 23) hx hb dX6_ears_100 (by decide) ?_
                    exact ih23 (k + 1) nm st_ (nightsF ft m_ (upd d 2 (nI k))) cn (by omega) (by omega) hno2 _ _ _ hw (lv_sub hl [1, 2, 3, 0] rfl)
                  · have hle : earC ft d xn k ≤ v := by unfold earC; rw [← hm2]; exact Int32.not_lt.mp c92
                    refine lv_iload_n hx hb dX6_ears_95 rfl (lv_at hl 3 rfl) ?_
                    exact s_iret cf hr hlk (nm, st_, (nightsF ft m_ (upd d 2 (nI k))), cn) hw (by unfold R_ears; rw [if_pos hok, nI_clamp (by omega)]; exact (earB_hit hkl hle hno 100 (by omega) (by omega)).symm) (Nat.le_of_ble_eq_true rfl) (Nat.le_of_ble_eq_true rfl) dX6_ears_96 hQ
                · have hml : m_ < xn := nI_lt_of (by omega) c56 (by omega)
                  refine lv_aload_n hx hb dX6_ears_59 rfl (lv_at hl 0 rfl) ?_
                  refine s_get (v := .ref t2) fb6 cf hw 21 rfl 3 rfl q309 rfl dX6_ears_60 ?_
                  refine s_getN (v := .int ((nightsF ft m_ (upd d 2 (nI k))) 6)) fb4 cf hw 0 rfl 11 rfl q180 rfl dX6_ears_63 ?_
                  refine lv_iload_n hx hb dX6_ears_66 rfl (lv_at hl 2 rfl) ?_
                  refine lv_icmp_gt (tgt := 84) hx hb dX6_ears_67 (by decide) (fun c67 => ?_) (fun c67 => ?_)
                  · refine lv_aload_n hx hb dX6_ears_84 rfl (lv_at hl 0 rfl) ?_
                    refine s_get (v := .ref t2) fb6 cf hw 21 rfl 3 rfl q309 rfl dX6_ears_85 ?_
                    refine s_getN (v := .int ((nightsF ft m_ (upd d 2 (nI k))) 6)) fb4 cf hw 0 rfl 11 rfl q180 rfl dX6_ears_88 ?_
                    refine lv_iload_n hx hb dX6_ears_91 rfl (lv_at hl 2 rfl) ?_
                    refine lv_icmp_gt (tgt := 97) hx hb dX6_ears_92 (by decide) (fun c92 => ?_) (fun c92 => ?_)
                    · have hnk : ¬ earC ft d xn k ≤ v := ear_hi (m := m_) hI2 (by omega) (Int32.not_le.mpr c92)
                      have hno2 : ∀ i, i < k + 1 → ¬ earC ft d xn i ≤ v := fun i hi => by rcases Nat.lt_or_ge i k with z | z; exact hno i z; rw [show i = k by omega]; exact hnk
                      refine lv_iinc (v := nI (k + 1)) (lv' := [(3, .int (nI (k + 1))), (0, .ref o), (1, .int (nI xn)), (2, .int v), (4, .int (nI m_))]) hx hb dX6_ears_97 hl (k := 3) rfl (nI_1 k) (by decide) rfl (fun ls hl => ?_)
                      refine lv_goto (tgt := 23) hx hb dX6_ears_100 (by decide) ?_
                      exact ih23 (k + 1) nm st_ (nightsF ft m_ (upd d 2 (nI k))) cn (by omega) (by omega) hno2 _ _ _ hw (lv_sub hl [1, 2, 3, 0] rfl)
                    · exact absurd c67 c92
                  · refine lv_aload_n hx hb dX6_ears_70 rfl (lv_at hl 0 rfl) ?_
                    refine s_get (v := .ref t2) fb6 cf hw 21 rfl 3 rfl q309 rfl dX6_ears_71 ?_
                    refine lv_iconst (v := 1) hx hb dX6_ears_74 (by decide) ?_
                    refine s_callv (runVN cf (x_pass (t := t2) (lad := lad) (ad := ad2) (d := (nightsF ft m_ (upd d 2 (nI k)))) (cn := cn) (nm := nm) (st_ := st_) (tr := tr) (txb := txb) (ft := ft) hF hFo (inv_nights hI2) (nightsF_1 (ft := ft) hni2 m_) 1 (by omega)) hw [0, 1, 2, 3, 4, 5, 6, 7, 16, 17, 18, 19, 20] (by decide) rfl km_X4_pass ki_X4_pass q499 (run_recv (ci := 4) (T := TX4) (N := 15) hw 0 rfl rfl) rfl rfl hl.1 rfl dX6_ears_75) hw [0, 1, 2, 3, 4, 5, 6, 7, 16, 17, 18, 19, 20] (by decide) rfl (fun _ => rfl) (fun u_9 H locs hp_10 hw => ?_)
                    have hw : WD g A s H locs [bO t2 4 (tF (lad 0) ad2 ((nightsF ft 1 (nightsF ft m_ (upd d 2 (nI k)))) 0) ((nightsF ft 1 (nightsF ft m_ (upd d 2 (nI k)))) 9) ((nightsF ft 1 (nightsF ft m_ (upd d 2 (nI k)))) 5) ((nightsF ft 1 (nightsF ft m_ (upd d 2 (nI k)))) 6) ((nightsF ft 1 (nightsF ft m_ (upd d 2 (nI k)))) 7) ((nightsF ft 1 (nightsF ft m_ (upd d 2 (nI k)))) 1) ((nightsF ft 1 (nightsF ft m_ (upd d 2 (nI k)))) 8)), bI g (ad2 1) 10 (col (nightsF ft 1 (nightsF ft m_ (upd d 2 (nI k)))) 0), bI g (ad2 2) 10 (col (nightsF ft 1 (nightsF ft m_ (upd d 2 (nI k)))) 1), bI g (ad2 3) 10 (col (nightsF ft 1 (nightsF ft m_ (upd d 2 (nI k)))) 2), bI g (ad2 4) 10 (col (nightsF ft 1 (nightsF ft m_ (upd d 2 (nI k)))) 3), bI g (ad2 5) 10 (col (nightsF ft 1 (nightsF ft m_ (upd d 2 (nI k)))) 4), bI g (ad2 6) 3 (rulF (nightsF ft 1 (nightsF ft m_ (upd d 2 (nI k))))), bI g (ad2 7) 3 cn, bO t 4 (tF (lad 0) ad (d 0) (d 9) (d 5) (d 6) (d 7) (d 1) (d 8)), bI g (ad 1) 10 (col d 0), bI g (ad 2) 10 (col d 1), bI g (ad 3) 10 (col d 2), bI g (ad 4) 10 (col d 3), bI g (ad 5) 10 (col d 4), bI g (ad 6) 3 (rulF d), bI g (ad 7) 3 cn, bO (lad 0) 0 ([.ref (lad 1), .ref (lad 2), .ref (lad 3)]), bR g 4 (lad 1) 14 tr, bI g (lad 2) 6 u_9.1, bI g (lad 3) 96 u_9.2, txb, bO o 6 (cF (lad 0) t t3 t2 ch kp tp wt)] := hw
                    have he : nightsF ft 1 (nightsF ft m_ (upd d 2 (nI k))) = nightsF ft (m_ + 1) (upd d 2 (nI k)) := nights_1s
                    have hw : WD g A s H locs [bO t2 4 (tF (lad 0) ad2 ((nightsF ft (m_ + 1) (upd d 2 (nI k))) 0) ((nightsF ft (m_ + 1) (upd d 2 (nI k))) 9) ((nightsF ft (m_ + 1) (upd d 2 (nI k))) 5) ((nightsF ft (m_ + 1) (upd d 2 (nI k))) 6) ((nightsF ft (m_ + 1) (upd d 2 (nI k))) 7) ((nightsF ft (m_ + 1) (upd d 2 (nI k))) 1) ((nightsF ft (m_ + 1) (upd d 2 (nI k))) 8)), bI g (ad2 1) 10 (col (nightsF ft (m_ + 1) (upd d 2 (nI k))) 0), bI g (ad2 2) 10 (col (nightsF ft (m_ + 1) (upd d 2 (nI k))) 1), bI g (ad2 3) 10 (col (nightsF ft (m_ + 1) (upd d 2 (nI k))) 2), bI g (ad2 4) 10 (col (nightsF ft (m_ + 1) (upd d 2 (nI k))) 3), bI g (ad2 5) 10 (col (nightsF ft (m_ + 1) (upd d 2 (nI k))) 4), bI g (ad2 6) 3 (rulF (nightsF ft (m_ + 1) (upd d 2 (nI k)))), bI g (ad2 7) 3 cn, bO t 4 (tF (lad 0) ad (d 0) (d 9) (d 5) (d 6) (d 7) (d 1) (d 8)), bI g (ad 1) 10 (col d 0), bI g (ad 2) 10 (col d 1), bI g (ad 3) 10 (col d 2), bI g (ad 4) 10 (col d 3), bI g (ad 5) 10 (col d 4), bI g (ad 6) 3 (rulF d), bI g (ad 7) 3 cn, bO (lad 0) 0 ([.ref (lad 1), .ref (lad 2), .ref (lad 3)]), bR g 4 (lad 1) 14 tr, bI g (lad 2) 6 u_9.1, bI g (lad 3) 96 u_9.2, txb, bO o 6 (cF (lad 0) t t3 t2 ch kp tp wt)] := by rw [← he]; exact hw
                    refine lv_iinc (v := nI (m_ + 1)) (lv' := [(4, .int (nI (m_ + 1))), (0, .ref o), (1, .int (nI xn)), (2, .int v), (3, .int (nI k))]) hx hb dX6_ears_78 hl (k := 4) rfl (nI_1 m_) (by decide) rfl (fun ls hl => ?_)
                    refine lv_goto (tgt := 53) hx hb dX6_ears_81 (by decide) ?_
                    exact ih53 (m_ + 1) u_9.1 u_9.2 (by omega) (by omega) _ _ _ hw (lv_sub hl [1, 2, 3, 4, 0] rfl)
            exact L53 (xn + 1) 0 nm st_ (by omega) (by omega) _ _ _ hw (lv_sub hl [1, 2, 3, 4, 0] rfl)
      exact L23 101 0 nm st_ d2 cn2 (by omega) (by omega) (fun i hi => absurd hi (by omega)) _ _ _ hw (lv_sub hl [1, 2, 3, 0] rfl)
    · have c15 := b01_z c15
      refine lv_ldc hx hb hown (hts _ q356) dX6_ears_18 ?_
      exact s_iret cf hr hlk (nm, st_, d2, cn2) hw (by unfold R_ears; rw [if_neg (fun z => c15 z.2)]) (Nat.le_of_ble_eq_true rfl) (Nat.le_of_ble_eq_true rfl) dX6_ears_20 hQ
set_option maxRecDepth 100000 in
set_option maxHeartbeats 4000000 in
theorem x_loudWith {l : Launch} {g : GG} {t : Nat} {lad ad : Nat → Nat} {d cn : DD} {nm st_ : DD} {tr : Nat → Option Nat} {txb : va_W} {ft : TXC} (hF : FitAt g tr txb (cn 0) ft) (hFo : okF ft) (hI : InvH d) {n : Nat} (hn : d 0 = nI n) (hn10 : n ≤ 10) {ni : Nat} (hni : d 1 = nI ni) (h9 : ni ≤ 9999) {o t2 t3 : Nat} {ch : Nat → Nat} {kp tp wt : Int32} {ad2 : Nat → Nat} {d2 cn2 : DD} (x b : Int32) (N : Nat) (hN : N ≤ 100) : Ct l g yX6_loudWith cX6_loudWith 5 (Option.some Jvm.ClassFile.FieldType.int) 6 0 0 [.ref o, .int x, .int (nI N), .int b] [bO t2 4 (tF (lad 0) ad2 (d2 0) (d2 9) (d2 5) (d2 6) (d2 7) (d2 1) (d2 8)), bI g (ad2 1) 10 (col d2 0), bI g (ad2 2) 10 (col d2 1), bI g (ad2 3) 10 (col d2 2), bI g (ad2 4) 10 (col d2 3), bI g (ad2 5) 10 (col d2 4), bI g (ad2 6) 3 (rulF d2), bI g (ad2 7) 3 cn2, bO t 4 (tF (lad 0) ad (d 0) (d 9) (d 5) (d 6) (d 7) (d 1) (d 8)), bI g (ad 1) 10 (col d 0), bI g (ad 2) 10 (col d 1), bI g (ad 3) 10 (col d 2), bI g (ad 4) 10 (col d 3), bI g (ad 5) 10 (col d 4), bI g (ad 6) 3 (rulF d), bI g (ad 7) 3 cn, bO (lad 0) 0 ([.ref (lad 1), .ref (lad 2), .ref (lad 3)]), bR g 4 (lad 1) 14 tr, bI g (lad 2) 6 nm, bI g (lad 3) 96 st_, txb, bO o 6 (cF (lad 0) t t3 t2 ch kp tp wt)] (QI g (fun r (_ : DD × DD × DD × DD) => r = loudF ft (if b = 0 then upd (nightsF ft N (fitSet x d)) 5 0 else nightsF ft N (fitSet x d)) n) (fun u => [bO t2 4 (tF (lad 0) ad2 (u.2.2.1 0) (u.2.2.1 9) (u.2.2.1 5) (u.2.2.1 6) (u.2.2.1 7) (u.2.2.1 1) (u.2.2.1 8)), bI g (ad2 1) 10 (col u.2.2.1 0), bI g (ad2 2) 10 (col u.2.2.1 1), bI g (ad2 3) 10 (col u.2.2.1 2), bI g (ad2 4) 10 (col u.2.2.1 3), bI g (ad2 5) 10 (col u.2.2.1 4), bI g (ad2 6) 3 (rulF u.2.2.1), bI g (ad2 7) 3 u.2.2.2, bO t 4 (tF (lad 0) ad (d 0) (d 9) (d 5) (d 6) (d 7) (d 1) (d 8)), bI g (ad 1) 10 (col d 0), bI g (ad 2) 10 (col d 1), bI g (ad 3) 10 (col d 2), bI g (ad 4) 10 (col d 3), bI g (ad 5) 10 (col d 4), bI g (ad 6) 3 (rulF d), bI g (ad 7) 3 cn, bO (lad 0) 0 ([.ref (lad 1), .ref (lad 2), .ref (lad 3)]), bR g 4 (lad 1) 14 tr, bI g (lad 2) 6 u.1, bI g (lad 3) 96 u.2.1, txb, bO o 6 (cF (lad 0) t t3 t2 ch kp tp wt)])) := by
  refine Ct.of (by decide) rfl ?_
  intro p e s m args below meth c A H locs ls Qf cf hr hlk hnm hQ hw hl
  have hx := cf.1
  have hb := cf.2.1
  have hml := cf.2.2.1
  have hown := cf.2.2.2.1
  have hts := cf.2.2.2.2
  have hw : WD g A s H locs [bO t2 4 (tF (lad 0) ad2 (d2 0) (d2 9) (d2 5) (d2 6) (d2 7) (d2 1) (d2 8)), bI g (ad2 1) 10 (col d2 0), bI g (ad2 2) 10 (col d2 1), bI g (ad2 3) 10 (col d2 2), bI g (ad2 4) 10 (col d2 3), bI g (ad2 5) 10 (col d2 4), bI g (ad2 6) 3 (rulF d2), bI g (ad2 7) 3 cn2, bO t 4 (tF (lad 0) ad (d 0) (d 9) (d 5) (d 6) (d 7) (d 1) (d 8)), bI g (ad 1) 10 (col d 0), bI g (ad 2) 10 (col d 1), bI g (ad 3) 10 (col d 2), bI g (ad 4) 10 (col d 3), bI g (ad 5) 10 (col d 4), bI g (ad 6) 3 (rulF d), bI g (ad 7) 3 cn, bO (lad 0) 0 ([.ref (lad 1), .ref (lad 2), .ref (lad 3)]), bR g 4 (lad 1) 14 tr, bI g (lad 2) 6 nm, bI g (lad 3) 96 st_, txb, bO o 6 (cF (lad 0) t t3 t2 ch kp tp wt)] := hw
  have hl : lv_has ls 5 [(0, .ref o), (1, .int x), (2, .int (nI N)), (3, .int b)] := hl
  refine lv_aload_n hx hb dX6_loudWith_0 rfl (lv_at hl 0 rfl) ?_
  refine s_get (v := .ref t2) fb6 cf hw 21 rfl 3 rfl q309 rfl dX6_loudWith_1 ?_
  refine lv_aload_n hx hb dX6_loudWith_4 rfl (lv_at hl 0 rfl) ?_
  refine s_get (v := .ref t) fb6 cf hw 21 rfl 1 rfl q307 rfl dX6_loudWith_5 ?_
  refine s_callv (runVN cf (x_become (t := t2) (lad := lad) (ad := ad2) (d := d2) (cn := cn2) (t2 := t) (ad2 := ad) (d2 := d) (cn2 := cn)) hw [0, 1, 2, 3, 4, 5, 6, 7, 8, 9, 10, 11, 12, 13, 14, 15] (by decide) rfl km_X4_become ki_X4_become q541 (run_recv (ci := 4) (T := TX4) (N := 15) hw 0 rfl rfl) rfl rfl hl.1 rfl dX6_loudWith_8) hw [0, 1, 2, 3, 4, 5, 6, 7, 8, 9, 10, 11, 12, 13, 14, 15] (by decide) rfl (fun _ => rfl) (fun u_1 H locs hp_2 hw => ?_)
  have hw : WD g A s H locs [bO t2 4 (tF (lad 0) ad2 (d 0) (d 9) (d 5) (d 6) (d 7) (d 1) (d 8)), bI g (ad2 1) 10 (col d 0), bI g (ad2 2) 10 (col d 1), bI g (ad2 3) 10 (col d 2), bI g (ad2 4) 10 (col d 3), bI g (ad2 5) 10 (col d 4), bI g (ad2 6) 3 (rulF d), bI g (ad2 7) 3 cn, bO t 4 (tF (lad 0) ad (d 0) (d 9) (d 5) (d 6) (d 7) (d 1) (d 8)), bI g (ad 1) 10 (col d 0), bI g (ad 2) 10 (col d 1), bI g (ad 3) 10 (col d 2), bI g (ad 4) 10 (col d 3), bI g (ad 5) 10 (col d 4), bI g (ad 6) 3 (rulF d), bI g (ad 7) 3 cn, bO (lad 0) 0 ([.ref (lad 1), .ref (lad 2), .ref (lad 3)]), bR g 4 (lad 1) 14 tr, bI g (lad 2) 6 nm, bI g (lad 3) 96 st_, txb, bO o 6 (cF (lad 0) t t3 t2 ch kp tp wt)] := hw
  refine lv_iconst (v := 0) hx hb dX6_loudWith_11 (by decide) ?_
  refine lv_istore (lv' := [(4, .int 0), (0, .ref o), (1, .int x), (2, .int (nI N)), (3, .int b)]) hx hb dX6_loudWith_12 hl (by decide) rfl (fun ls hl => ?_)
  have L14 : ∀ (fu : Nat) (i : Nat), (i ≤ n) → (n < i + fu) → ∀ (H : Heap) (locs : List Loc) (ls : Array Slot), WD g A s H locs [bO t2 4 (tF (lad 0) ad2 ((itn (fitOne x) i d) 0) ((itn (fitOne x) i d) 9) ((itn (fitOne x) i d) 5) ((itn (fitOne x) i d) 6) ((itn (fitOne x) i d) 7) ((itn (fitOne x) i d) 1) ((itn (fitOne x) i d) 8)), bI g (ad2 1) 10 (col (itn (fitOne x) i d) 0), bI g (ad2 2) 10 (col (itn (fitOne x) i d) 1), bI g (ad2 3) 10 (col (itn (fitOne x) i d) 2), bI g (ad2 4) 10 (col (itn (fitOne x) i d) 3), bI g (ad2 5) 10 (col (itn (fitOne x) i d) 4), bI g (ad2 6) 3 (rulF (itn (fitOne x) i d)), bI g (ad2 7) 3 cn, bO t 4 (tF (lad 0) ad (d 0) (d 9) (d 5) (d 6) (d 7) (d 1) (d 8)), bI g (ad 1) 10 (col d 0), bI g (ad 2) 10 (col d 1), bI g (ad 3) 10 (col d 2), bI g (ad 4) 10 (col d 3), bI g (ad 5) 10 (col d 4), bI g (ad 6) 3 (rulF d), bI g (ad 7) 3 cn, bO (lad 0) 0 ([.ref (lad 1), .ref (lad 2), .ref (lad 3)]), bR g 4 (lad 1) 14 tr, bI g (lad 2) 6 nm, bI g (lad 3) 96 st_, txb, bO o 6 (cF (lad 0) t t3 t2 ch kp tp wt)] → lv_has ls 5 [(0, .ref o), (1, .int x), (2, .int (nI N)), (3, .int b), (4, .int (nI i))] → W p l e (rmx 6 0 0) s m args below meth c H locs 0 0 Qf (F0 m 14 ls []) := by
    intro fu
    induction fu with
    | zero => intro i hi hfu; exfalso; omega
    | succ fu ih14 =>
      intro i hi hfu H locs ls hw hl
      refine lv_iload hx hb dX6_loudWith_14 (lv_at hl 4 rfl) ?_
      refine lv_aload_n hx hb dX6_loudWith_16 rfl (lv_at hl 0 rfl) ?_
      refine s_get (v := .ref t2) fb6 cf hw 21 rfl 3 rfl q309 rfl dX6_loudWith_17 ?_
      refine s_getN (v := .int ((itn (fitOne x) i d) 0)) fb4 cf hw 0 rfl 8 rfl q174 rfl dX6_loudWith_20 ?_
      refine lv_icmp_ge (tgt := 62) hx hb dX6_loudWith_23 (by decide) (fun c23 => ?_) (fun c23 => ?_)
      · have hi2 : i = n := by rw [fitSet_lo (by omega), hn] at c23; have := nI_le_of (by omega) c23 (by omega); omega
        have he : itn (fitOne x) i d = fitSet x d := by unfold fitSet; rw [nH_of hn hn10, hi2]
        have hw : WD g A s H locs [bO t2 4 (tF (lad 0) ad2 ((fitSet x d) 0) ((fitSet x d) 9) ((fitSet x d) 5) ((fitSet x d) 6) ((fitSet x d) 7) ((fitSet x d) 1) ((fitSet x d) 8)), bI g (ad2 1) 10 (col (fitSet x d) 0), bI g (ad2 2) 10 (col (fitSet x d) 1), bI g (ad2 3) 10 (col (fitSet x d) 2), bI g (ad2 4) 10 (col (fitSet x d) 3), bI g (ad2 5) 10 (col (fitSet x d) 4), bI g (ad2 6) 3 (rulF (fitSet x d)), bI g (ad2 7) 3 cn, bO t 4 (tF (lad 0) ad (d 0) (d 9) (d 5) (d 6) (d 7) (d 1) (d 8)), bI g (ad 1) 10 (col d 0), bI g (ad 2) 10 (col d 1), bI g (ad 3) 10 (col d 2), bI g (ad 4) 10 (col d 3), bI g (ad 5) 10 (col d 4), bI g (ad 6) 3 (rulF d), bI g (ad 7) 3 cn, bO (lad 0) 0 ([.ref (lad 1), .ref (lad 2), .ref (lad 3)]), bR g 4 (lad 1) 14 tr, bI g (lad 2) 6 nm, bI g (lad 3) 96 st_, txb, bO o 6 (cF (lad 0) t t3 t2 ch kp tp wt)] := by rw [← he]; exact hw
        have hIf : InvH (fitSet x d) := inv_fit hI
        have hnif : (fitSet x d) 1 = nI ni := (fitSet_lo (by omega)).trans hni
        have hne : (nightsF ft N (fitSet x d)) 0 = nI n := by rw [nightsF_lo (by omega) (by omega) (by omega) (by omega) (by omega) (by omega)]; exact (fitSet_lo (by omega)).trans hn
        have hIe : InvH (nightsF ft N (fitSet x d)) := inv_nights hIf
        have hIz : InvH (upd (nightsF ft N (fitSet x d)) 5 0) := inv_upd hIe (fun u hu => by cases hu; decide)
        refine lv_aload_n hx hb dX6_loudWith_62 rfl (lv_at hl 0 rfl) ?_
        refine s_get (v := .ref t2) fb6 cf hw 21 rfl 3 rfl q309 rfl dX6_loudWith_63 ?_
        refine lv_iload_n hx hb dX6_loudWith_66 rfl (lv_at hl 2 rfl) ?_
        refine s_callv (runVN cf (x_pass (t := t2) (lad := lad) (ad := ad2) (d := (fitSet x d)) (cn := cn) (nm := nm) (st_ := st_) (tr := tr) (txb := txb) (ft := ft) hF hFo hIf hnif N (by omega)) hw [0, 1, 2, 3, 4, 5, 6, 7, 16, 17, 18, 19, 20] (by decide) rfl km_X4_pass ki_X4_pass q499 (run_recv (ci := 4) (T := TX4) (N := 15) hw 0 rfl rfl) rfl rfl hl.1 rfl dX6_loudWith_67) hw [0, 1, 2, 3, 4, 5, 6, 7, 16, 17, 18, 19, 20] (by decide) rfl (fun _ => rfl) (fun u_3 H locs hp_4 hw => ?_)
        have hw : WD g A s H locs [bO t2 4 (tF (lad 0) ad2 ((nightsF ft N (fitSet x d)) 0) ((nightsF ft N (fitSet x d)) 9) ((nightsF ft N (fitSet x d)) 5) ((nightsF ft N (fitSet x d)) 6) ((nightsF ft N (fitSet x d)) 7) ((nightsF ft N (fitSet x d)) 1) ((nightsF ft N (fitSet x d)) 8)), bI g (ad2 1) 10 (col (nightsF ft N (fitSet x d)) 0), bI g (ad2 2) 10 (col (nightsF ft N (fitSet x d)) 1), bI g (ad2 3) 10 (col (nightsF ft N (fitSet x d)) 2), bI g (ad2 4) 10 (col (nightsF ft N (fitSet x d)) 3), bI g (ad2 5) 10 (col (nightsF ft N (fitSet x d)) 4), bI g (ad2 6) 3 (rulF (nightsF ft N (fitSet x d))), bI g (ad2 7) 3 cn, bO t 4 (tF (lad 0) ad (d 0) (d 9) (d 5) (d 6) (d 7) (d 1) (d 8)), bI g (ad 1) 10 (col d 0), bI g (ad 2) 10 (col d 1), bI g (ad 3) 10 (col d 2), bI g (ad 4) 10 (col d 3), bI g (ad 5) 10 (col d 4), bI g (ad 6) 3 (rulF d), bI g (ad 7) 3 cn, bO (lad 0) 0 ([.ref (lad 1), .ref (lad 2), .ref (lad 3)]), bR g 4 (lad 1) 14 tr, bI g (lad 2) 6 u_3.1, bI g (lad 3) 96 u_3.2, txb, bO o 6 (cF (lad 0) t t3 t2 ch kp tp wt)] := hw
        refine lv_aload_n hx hb dX6_loudWith_70 rfl (lv_at hl 0 rfl) ?_
        refine s_get (v := .ref t2) fb6 cf hw 21 rfl 3 rfl q309 rfl dX6_loudWith_71 ?_
        refine lv_iload_n hx hb dX6_loudWith_74 rfl (lv_at hl 3 rfl) ?_
        refine lv_if_eq (tgt := 88) hx hb dX6_loudWith_75 (by decide) (fun c75 => ?_) (fun c75 => ?_)
        · refine lv_iconst (v := 0) hx hb dX6_loudWith_88 (by decide) ?_
          refine s_putN (v := .int 0) fb4 cf hw 0 rfl 10 rfl q178 rfl rfl rfl rfl dX6_loudWith_89 (fun H locs hw => ?_)
          have hw : WD g A s H locs [bO t2 4 (tF (lad 0) ad2 ((nightsF ft N (fitSet x d)) 0) ((nightsF ft N (fitSet x d)) 9) 0 ((nightsF ft N (fitSet x d)) 6) ((nightsF ft N (fitSet x d)) 7) ((nightsF ft N (fitSet x d)) 1) ((nightsF ft N (fitSet x d)) 8)), bI g (ad2 1) 10 (col (nightsF ft N (fitSet x d)) 0), bI g (ad2 2) 10 (col (nightsF ft N (fitSet x d)) 1), bI g (ad2 3) 10 (col (nightsF ft N (fitSet x d)) 2), bI g (ad2 4) 10 (col (nightsF ft N (fitSet x d)) 3), bI g (ad2 5) 10 (col (nightsF ft N (fitSet x d)) 4), bI g (ad2 6) 3 (rulF (nightsF ft N (fitSet x d))), bI g (ad2 7) 3 cn, bO t 4 (tF (lad 0) ad (d 0) (d 9) (d 5) (d 6) (d 7) (d 1) (d 8)), bI g (ad 1) 10 (col d 0), bI g (ad 2) 10 (col d 1), bI g (ad 3) 10 (col d 2), bI g (ad 4) 10 (col d 3), bI g (ad 5) 10 (col d 4), bI g (ad 6) 3 (rulF d), bI g (ad 7) 3 cn, bO (lad 0) 0 ([.ref (lad 1), .ref (lad 2), .ref (lad 3)]), bR g 4 (lad 1) 14 tr, bI g (lad 2) 6 u_3.1, bI g (lad 3) 96 u_3.2, txb, bO o 6 (cF (lad 0) t t3 t2 ch kp tp wt)] := hw
          have hw : WD g A s H locs [bO t2 4 (tF (lad 0) ad2 ((upd (nightsF ft N (fitSet x d)) 5 0) 0) ((upd (nightsF ft N (fitSet x d)) 5 0) 9) ((upd (nightsF ft N (fitSet x d)) 5 0) 5) ((upd (nightsF ft N (fitSet x d)) 5 0) 6) ((upd (nightsF ft N (fitSet x d)) 5 0) 7) ((upd (nightsF ft N (fitSet x d)) 5 0) 1) ((upd (nightsF ft N (fitSet x d)) 5 0) 8)), bI g (ad2 1) 10 (col (upd (nightsF ft N (fitSet x d)) 5 0) 0), bI g (ad2 2) 10 (col (upd (nightsF ft N (fitSet x d)) 5 0) 1), bI g (ad2 3) 10 (col (upd (nightsF ft N (fitSet x d)) 5 0) 2), bI g (ad2 4) 10 (col (upd (nightsF ft N (fitSet x d)) 5 0) 3), bI g (ad2 5) 10 (col (upd (nightsF ft N (fitSet x d)) 5 0) 4), bI g (ad2 6) 3 (rulF (upd (nightsF ft N (fitSet x d)) 5 0)), bI g (ad2 7) 3 cn, bO t 4 (tF (lad 0) ad (d 0) (d 9) (d 5) (d 6) (d 7) (d 1) (d 8)), bI g (ad 1) 10 (col d 0), bI g (ad 2) 10 (col d 1), bI g (ad 3) 10 (col d 2), bI g (ad 4) 10 (col d 3), bI g (ad 5) 10 (col d 4), bI g (ad 6) 3 (rulF d), bI g (ad 7) 3 cn, bO (lad 0) 0 ([.ref (lad 1), .ref (lad 2), .ref (lad 3)]), bR g 4 (lad 1) 14 tr, bI g (lad 2) 6 u_3.1, bI g (lad 3) 96 u_3.2, txb, bO o 6 (cF (lad 0) t t3 t2 ch kp tp wt)] := tw_wd (rest := [bO t 4 (tF (lad 0) ad (d 0) (d 9) (d 5) (d 6) (d 7) (d 1) (d 8)), bI g (ad 1) 10 (col d 0), bI g (ad 2) 10 (col d 1), bI g (ad 3) 10 (col d 2), bI g (ad 4) 10 (col d 3), bI g (ad 5) 10 (col d 4), bI g (ad 6) 3 (rulF d), bI g (ad 7) 3 cn, bO (lad 0) 0 ([.ref (lad 1), .ref (lad 2), .ref (lad 3)]), bR g 4 (lad 1) 14 tr, bI g (lad 2) 6 u_3.1, bI g (lad 3) 96 u_3.2, txb, bO o 6 (cF (lad 0) t t3 t2 ch kp tp wt)]) (e := upd (nightsF ft N (fitSet x d)) 5 0) (tw_lo (by omega) (by omega)) hw
          refine lv_aload_n hx hb dX6_loudWith_92 rfl (lv_at hl 0 rfl) ?_
          refine s_get (v := .ref t2) fb6 cf hw 21 rfl 3 rfl q309 rfl dX6_loudWith_93 ?_
          refine s_callv (runVN cf (x_clank (t := t2) (lad := lad) (ad := ad2) (d := (upd (nightsF ft N (fitSet x d)) 5 0)) (cn := cn) (nm := u_3.1) (st_ := u_3.2) (tr := tr) (txb := txb) (ft := ft) hF hFo hIz) hw [0, 1, 2, 3, 4, 5, 6, 7, 16, 17, 18, 19, 20] (by decide) rfl km_X4_clank ki_X4_clank q481 (run_recv (ci := 4) (T := TX4) (N := 15) hw 0 rfl rfl) rfl rfl hl.1 rfl dX6_loudWith_96) hw [0, 1, 2, 3, 4, 5, 6, 7, 16, 17, 18, 19, 20] (by decide) rfl (fun _ => rfl) (fun u_5 H locs hp_6 hw => ?_)
          have hw : WD g A s H locs [bO t2 4 (tF (lad 0) ad2 ((roundF ft (upd (nightsF ft N (fitSet x d)) 5 0)) 0) ((roundF ft (upd (nightsF ft N (fitSet x d)) 5 0)) 9) ((roundF ft (upd (nightsF ft N (fitSet x d)) 5 0)) 5) ((roundF ft (upd (nightsF ft N (fitSet x d)) 5 0)) 6) ((roundF ft (upd (nightsF ft N (fitSet x d)) 5 0)) 7) ((roundF ft (upd (nightsF ft N (fitSet x d)) 5 0)) 1) ((roundF ft (upd (nightsF ft N (fitSet x d)) 5 0)) 8)), bI g (ad2 1) 10 (col (roundF ft (upd (nightsF ft N (fitSet x d)) 5 0)) 0), bI g (ad2 2) 10 (col (roundF ft (upd (nightsF ft N (fitSet x d)) 5 0)) 1), bI g (ad2 3) 10 (col (roundF ft (upd (nightsF ft N (fitSet x d)) 5 0)) 2), bI g (ad2 4) 10 (col (roundF ft (upd (nightsF ft N (fitSet x d)) 5 0)) 3), bI g (ad2 5) 10 (col (roundF ft (upd (nightsF ft N (fitSet x d)) 5 0)) 4), bI g (ad2 6) 3 (rulF (roundF ft (upd (nightsF ft N (fitSet x d)) 5 0))), bI g (ad2 7) 3 cn, bO t 4 (tF (lad 0) ad (d 0) (d 9) (d 5) (d 6) (d 7) (d 1) (d 8)), bI g (ad 1) 10 (col d 0), bI g (ad 2) 10 (col d 1), bI g (ad 3) 10 (col d 2), bI g (ad 4) 10 (col d 3), bI g (ad 5) 10 (col d 4), bI g (ad 6) 3 (rulF d), bI g (ad 7) 3 cn, bO (lad 0) 0 ([.ref (lad 1), .ref (lad 2), .ref (lad 3)]), bR g 4 (lad 1) 14 tr, bI g (lad 2) 6 u_5.1, bI g (lad 3) 96 u_5.2, txb, bO o 6 (cF (lad 0) t t3 t2 ch kp tp wt)] := hw
          refine lv_aload_n hx hb dX6_loudWith_99 rfl (lv_at hl 0 rfl) ?_
          refine s_get (v := .ref t2) fb6 cf hw 21 rfl 3 rfl q309 rfl dX6_loudWith_100 ?_
          refine s_getN (v := .int ((roundF ft (upd (nightsF ft N (fitSet x d)) 5 0)) 5)) fb4 cf hw 0 rfl 10 rfl q178 rfl dX6_loudWith_103 ?_
          exact s_iret cf hr hlk (u_5.1, u_5.2, (roundF ft (upd (nightsF ft N (fitSet x d)) 5 0)), cn) hw (by rw [if_pos c75]; exact (tw_round hIz (n := n) ((upd_ne (by omega)).trans hne) hn10).2.2.1) (Nat.le_of_ble_eq_true rfl) (Nat.le_of_ble_eq_true rfl) dX6_loudWith_106 hQ
        · refine lv_aload_n hx hb dX6_loudWith_78 rfl (lv_at hl 0 rfl) ?_
          refine s_get (v := .ref t2) fb6 cf hw 21 rfl 3 rfl q309 rfl dX6_loudWith_79 ?_
          refine s_getN (v := .int ((nightsF ft N (fitSet x d)) 5)) fb4 cf hw 0 rfl 10 rfl q178 rfl dX6_loudWith_82 ?_
          refine lv_goto (tgt := 89) hx hb dX6_loudWith_85 (by decide) ?_
          refine s_putN (v := .int ((nightsF ft N (fitSet x d)) 5)) fb4 cf hw 0 rfl 10 rfl q178 rfl rfl rfl rfl dX6_loudWith_89 (fun H locs hw => ?_)
          have hw : WD g A s H locs [bO t2 4 (tF (lad 0) ad2 ((nightsF ft N (fitSet x d)) 0) ((nightsF ft N (fitSet x d)) 9) ((nightsF ft N (fitSet x d)) 5) ((nightsF ft N (fitSet x d)) 6) ((nightsF ft N (fitSet x d)) 7) ((nightsF ft N (fitSet x d)) 1) ((nightsF ft N (fitSet x d)) 8)), bI g (ad2 1) 10 (col (nightsF ft N (fitSet x d)) 0), bI g (ad2 2) 10 (col (nightsF ft N (fitSet x d)) 1), bI g (ad2 3) 10 (col (nightsF ft N (fitSet x d)) 2), bI g (ad2 4) 10 (col (nightsF ft N (fitSet x d)) 3), bI g (ad2 5) 10 (col (nightsF ft N (fitSet x d)) 4), bI g (ad2 6) 3 (rulF (nightsF ft N (fitSet x d))), bI g (ad2 7) 3 cn, bO t 4 (tF (lad 0) ad (d 0) (d 9) (d 5) (d 6) (d 7) (d 1) (d 8)), bI g (ad 1) 10 (col d 0), bI g (ad 2) 10 (col d 1), bI g (ad 3) 10 (col d 2), bI g (ad 4) 10 (col d 3), bI g (ad 5) 10 (col d 4), bI g (ad 6) 3 (rulF d), bI g (ad 7) 3 cn, bO (lad 0) 0 ([.ref (lad 1), .ref (lad 2), .ref (lad 3)]), bR g 4 (lad 1) 14 tr, bI g (lad 2) 6 u_3.1, bI g (lad 3) 96 u_3.2, txb, bO o 6 (cF (lad 0) t t3 t2 ch kp tp wt)] := hw
          refine lv_aload_n hx hb dX6_loudWith_92 rfl (lv_at hl 0 rfl) ?_
          refine s_get (v := .ref t2) fb6 cf hw 21 rfl 3 rfl q309 rfl dX6_loudWith_93 ?_
          refine s_callv (runVN cf (x_clank (t := t2) (lad := lad) (ad := ad2) (d := (nightsF ft N (fitSet x d))) (cn := cn) (nm := u_3.1) (st_ := u_3.2) (tr := tr) (txb := txb) (ft := ft) hF hFo hIe) hw [0, 1, 2, 3, 4, 5, 6, 7, 16, 17, 18, 19, 20] (by decide) rfl km_X4_clank ki_X4_clank q481 (run_recv (ci := 4) (T := TX4) (N := 15) hw 0 rfl rfl) rfl rfl hl.1 rfl dX6_loudWith_96) hw [0, 1, 2, 3, 4, 5, 6, 7, 16, 17, 18, 19, 20] (by decide) rfl (fun _ => rfl) (fun u_7 H locs hp_8 hw => ?_)
          have hw : WD g A s H locs [bO t2 4 (tF (lad 0) ad2 ((roundF ft (nightsF ft N (fitSet x d))) 0) ((roundF ft (nightsF ft N (fitSet x d))) 9) ((roundF ft (nightsF ft N (fitSet x d))) 5) ((roundF ft (nightsF ft N (fitSet x d))) 6) ((roundF ft (nightsF ft N (fitSet x d))) 7) ((roundF ft (nightsF ft N (fitSet x d))) 1) ((roundF ft (nightsF ft N (fitSet x d))) 8)), bI g (ad2 1) 10 (col (roundF ft (nightsF ft N (fitSet x d))) 0), bI g (ad2 2) 10 (col (roundF ft (nightsF ft N (fitSet x d))) 1), bI g (ad2 3) 10 (col (roundF ft (nightsF ft N (fitSet x d))) 2), bI g (ad2 4) 10 (col (roundF ft (nightsF ft N (fitSet x d))) 3), bI g (ad2 5) 10 (col (roundF ft (nightsF ft N (fitSet x d))) 4), bI g (ad2 6) 3 (rulF (roundF ft (nightsF ft N (fitSet x d)))), bI g (ad2 7) 3 cn, bO t 4 (tF (lad 0) ad (d 0) (d 9) (d 5) (d 6) (d 7) (d 1) (d 8)), bI g (ad 1) 10 (col d 0), bI g (ad 2) 10 (col d 1), bI g (ad 3) 10 (col d 2), bI g (ad 4) 10 (col d 3), bI g (ad 5) 10 (col d 4), bI g (ad 6) 3 (rulF d), bI g (ad 7) 3 cn, bO (lad 0) 0 ([.ref (lad 1), .ref (lad 2), .ref (lad 3)]), bR g 4 (lad 1) 14 tr, bI g (lad 2) 6 u_7.1, bI g (lad 3) 96 u_7.2, txb, bO o 6 (cF (lad 0) t t3 t2 ch kp tp wt)] := hw
          refine lv_aload_n hx hb dX6_loudWith_99 rfl (lv_at hl 0 rfl) ?_
          refine s_get (v := .ref t2) fb6 cf hw 21 rfl 3 rfl q309 rfl dX6_loudWith_100 ?_
          refine s_getN (v := .int ((roundF ft (nightsF ft N (fitSet x d))) 5)) fb4 cf hw 0 rfl 10 rfl q178 rfl dX6_loudWith_103 ?_
          exact s_iret cf hr hlk (u_7.1, u_7.2, (roundF ft (nightsF ft N (fitSet x d))), cn) hw (by rw [if_neg c75]; exact (tw_round hIe hne hn10).2.2.1) (Nat.le_of_ble_eq_true rfl) (Nat.le_of_ble_eq_true rfl) dX6_loudWith_106 hQ
      · have hlt : i < n := by rw [fitSet_lo (by omega), hn] at c23; exact nI_lt_of (by omega) c23 (by omega)
        refine lv_iload_n hx hb dX6_loudWith_26 rfl (lv_at hl 1 rfl) ?_
        refine lv_iload hx hb dX6_loudWith_27 (lv_at hl 4 rfl) ?_
        refine lv_ishr hx hb dX6_loudWith_29 ?_
        refine lv_iconst (v := 1) hx hb dX6_loudWith_30 (by decide) ?_
        refine lv_iand hx hb dX6_loudWith_31 ?_
        refine lv_iconst (v := 1) hx hb dX6_loudWith_32 (by decide) ?_
        refine lv_icmp_ne (tgt := 56) hx hb dX6_loudWith_33 (by decide) (fun c33 => ?_) (fun c33 => ?_)
        · have he : itn (fitOne x) (i + 1) d = itn (fitOne x) i d := by show fitOne x i (itn (fitOne x) i d) = _; unfold fitOne; rw [if_neg c33]; exact upd_self
          have hw : WD g A s H locs [bO t2 4 (tF (lad 0) ad2 ((itn (fitOne x) (i + 1) d) 0) ((itn (fitOne x) (i + 1) d) 9) ((itn (fitOne x) (i + 1) d) 5) ((itn (fitOne x) (i + 1) d) 6) ((itn (fitOne x) (i + 1) d) 7) ((itn (fitOne x) (i + 1) d) 1) ((itn (fitOne x) (i + 1) d) 8)), bI g (ad2 1) 10 (col (itn (fitOne x) (i + 1) d) 0), bI g (ad2 2) 10 (col (itn (fitOne x) (i + 1) d) 1), bI g (ad2 3) 10 (col (itn (fitOne x) (i + 1) d) 2), bI g (ad2 4) 10 (col (itn (fitOne x) (i + 1) d) 3), bI g (ad2 5) 10 (col (itn (fitOne x) (i + 1) d) 4), bI g (ad2 6) 3 (rulF (itn (fitOne x) (i + 1) d)), bI g (ad2 7) 3 cn, bO t 4 (tF (lad 0) ad (d 0) (d 9) (d 5) (d 6) (d 7) (d 1) (d 8)), bI g (ad 1) 10 (col d 0), bI g (ad 2) 10 (col d 1), bI g (ad 3) 10 (col d 2), bI g (ad 4) 10 (col d 3), bI g (ad 5) 10 (col d 4), bI g (ad 6) 3 (rulF d), bI g (ad 7) 3 cn, bO (lad 0) 0 ([.ref (lad 1), .ref (lad 2), .ref (lad 3)]), bR g 4 (lad 1) 14 tr, bI g (lad 2) 6 nm, bI g (lad 3) 96 st_, txb, bO o 6 (cF (lad 0) t t3 t2 ch kp tp wt)] := by rw [he]; exact hw
          refine lv_iinc (v := nI (i + 1)) (lv' := [(4, .int (nI (i + 1))), (0, .ref o), (1, .int x), (2, .int (nI N)), (3, .int b)]) hx hb dX6_loudWith_56 hl (k := 4) rfl (nI_1 i) (by decide) rfl (fun ls hl => ?_)
          refine lv_goto (tgt := 14) hx hb dX6_loudWith_59 (by decide) ?_
          exact ih14 (i + 1) (by omega) (by omega) _ _ _ hw (lv_sub hl [1, 2, 3, 4, 0] rfl)
        · refine lv_aload_n hx hb dX6_loudWith_36 rfl (lv_at hl 0 rfl) ?_
          refine s_get (v := .ref t2) fb6 cf hw 21 rfl 3 rfl q309 rfl dX6_loudWith_37 ?_
          refine s_getN (v := .ref (ad2 3)) fb4 cf hw 0 rfl 3 rfl q162 rfl dX6_loudWith_40 ?_
          refine lv_iload hx hb dX6_loudWith_43 (lv_at hl 4 rfl) ?_
          refine lv_aload_n hx hb dX6_loudWith_45 rfl (lv_at hl 0 rfl) ?_
          refine s_get (v := .ref t2) fb6 cf hw 21 rfl 3 rfl q309 rfl dX6_loudWith_46 ?_
          refine s_getN (v := .ref (ad2 2)) fb4 cf hw 0 rfl 2 rfl q160 rfl dX6_loudWith_49 ?_
          refine lv_iload hx hb dX6_loudWith_52 (lv_at hl 4 rfl) ?_
          refine s_iald (j := i) cf hw 2 rfl (rfl) (by omega) rfl dX6_loudWith_54 ?_
          refine lv_topr (y := (itn (fitOne x) i d) (10 + 5 * i + 1)) (rfl) ?_
          refine s_iast (j := i) cf hw 3 rfl (rfl) (by omega) rfl dX6_loudWith_55 (fun H locs hw => ?_)
          have hw : WD g A s H locs [bO t2 4 (tF (lad 0) ad2 ((itn (fitOne x) i d) 0) ((itn (fitOne x) i d) 9) ((itn (fitOne x) i d) 5) ((itn (fitOne x) i d) 6) ((itn (fitOne x) i d) 7) ((itn (fitOne x) i d) 1) ((itn (fitOne x) i d) 8)), bI g (ad2 1) 10 (col (itn (fitOne x) i d) 0), bI g (ad2 2) 10 (col (itn (fitOne x) i d) 1), bI g (ad2 3) 10 (upd (col (itn (fitOne x) i d) 2) i ((itn (fitOne x) i d) (10 + 5 * i + 1))), bI g (ad2 4) 10 (col (itn (fitOne x) i d) 3), bI g (ad2 5) 10 (col (itn (fitOne x) i d) 4), bI g (ad2 6) 3 (rulF (itn (fitOne x) i d)), bI g (ad2 7) 3 cn, bO t 4 (tF (lad 0) ad (d 0) (d 9) (d 5) (d 6) (d 7) (d 1) (d 8)), bI g (ad 1) 10 (col d 0), bI g (ad 2) 10 (col d 1), bI g (ad 3) 10 (col d 2), bI g (ad 4) 10 (col d 3), bI g (ad 5) 10 (col d 4), bI g (ad 6) 3 (rulF d), bI g (ad 7) 3 cn, bO (lad 0) 0 ([.ref (lad 1), .ref (lad 2), .ref (lad 3)]), bR g 4 (lad 1) 14 tr, bI g (lad 2) 6 nm, bI g (lad 3) 96 st_, txb, bO o 6 (cF (lad 0) t t3 t2 ch kp tp wt)] := hw
          have he : itn (fitOne x) (i + 1) d = upd (itn (fitOne x) i d) (10 + 5 * i + 2) ((itn (fitOne x) i d) (10 + 5 * i + 1)) := by show fitOne x i (itn (fitOne x) i d) = _; unfold fitOne; rw [if_pos c33]
          have hw : WD g A s H locs [bO t2 4 (tF (lad 0) ad2 ((itn (fitOne x) (i + 1) d) 0) ((itn (fitOne x) (i + 1) d) 9) ((itn (fitOne x) (i + 1) d) 5) ((itn (fitOne x) (i + 1) d) 6) ((itn (fitOne x) (i + 1) d) 7) ((itn (fitOne x) (i + 1) d) 1) ((itn (fitOne x) (i + 1) d) 8)), bI g (ad2 1) 10 (col (itn (fitOne x) (i + 1) d) 0), bI g (ad2 2) 10 (col (itn (fitOne x) (i + 1) d) 1), bI g (ad2 3) 10 (col (itn (fitOne x) (i + 1) d) 2), bI g (ad2 4) 10 (col (itn (fitOne x) (i + 1) d) 3), bI g (ad2 5) 10 (col (itn (fitOne x) (i + 1) d) 4), bI g (ad2 6) 3 (rulF (itn (fitOne x) (i + 1) d)), bI g (ad2 7) 3 cn, bO t 4 (tF (lad 0) ad (d 0) (d 9) (d 5) (d 6) (d 7) (d 1) (d 8)), bI g (ad 1) 10 (col d 0), bI g (ad 2) 10 (col d 1), bI g (ad 3) 10 (col d 2), bI g (ad 4) 10 (col d 3), bI g (ad 5) 10 (col d 4), bI g (ad 6) 3 (rulF d), bI g (ad 7) 3 cn, bO (lad 0) 0 ([.ref (lad 1), .ref (lad 2), .ref (lad 3)]), bR g 4 (lad 1) 14 tr, bI g (lad 2) 6 nm, bI g (lad 3) 96 st_, txb, bO o 6 (cF (lad 0) t t3 t2 ch kp tp wt)] := by rw [he]; exact tw_wd (rest := [bO t 4 (tF (lad 0) ad (d 0) (d 9) (d 5) (d 6) (d 7) (d 1) (d 8)), bI g (ad 1) 10 (col d 0), bI g (ad 2) 10 (col d 1), bI g (ad 3) 10 (col d 2), bI g (ad 4) 10 (col d 3), bI g (ad 5) 10 (col d 4), bI g (ad 6) 3 (rulF d), bI g (ad 7) 3 cn, bO (lad 0) 0 ([.ref (lad 1), .ref (lad 2), .ref (lad 3)]), bR g 4 (lad 1) 14 tr, bI g (lad 2) 6 nm, bI g (lad 3) 96 st_, txb, bO o 6 (cF (lad 0) t t3 t2 ch kp tp wt)]) (e := upd (itn (fitOne x) i d) (10 + 5 * i + 2) ((itn (fitOne x) i d) (10 + 5 * i + 1))) (tw_h i 2 _ (by omega) (tw_id (itn (fitOne x) i d))) hw
          refine lv_iinc (v := nI (i + 1)) (lv' := [(4, .int (nI (i + 1))), (0, .ref o), (1, .int x), (2, .int (nI N)), (3, .int b)]) hx hb dX6_loudWith_56 hl (k := 4) rfl (nI_1 i) (by decide) rfl (fun ls hl => ?_)
          refine lv_goto (tgt := 14) hx hb dX6_loudWith_59 (by decide) ?_
          exact ih14 (i + 1) (by omega) (by omega) _ _ _ hw (lv_sub hl [1, 2, 3, 4, 0] rfl)
  exact L14 (n + 1) 0 (by omega) (by omega) _ _ _ hw (lv_sub hl [1, 2, 3, 4, 0] rfl)
