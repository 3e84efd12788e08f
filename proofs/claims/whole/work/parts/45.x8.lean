set_option maxRecDepth 100000 in
set_option maxHeartbeats 4000000 in
theorem c_set {l : Launch} {g : GG} {t : Nat} {lad ad : Nat → Nat} {d cn : DD} {n : Nat} (hn : d 0 = nI n) (hn10 : n ≤ 10) {o t2 t3 : Nat} {ch : Nat → Nat} {kp tp wt : Int32} (x w v : Int32) : Ct l g yX6_set cX6_set 4 (Option.some Jvm.ClassFile.FieldType.int) 1 0 0 [.ref o, .int x, .int w, .int v] [bO t 4 (tF (lad 0) ad (d 0) (d 9) (d 5) (d 6) (d 7) (d 1) (d 8)), bI g (ad 1) 10 (col d 0), bI g (ad 2) 10 (col d 1), bI g (ad 3) 10 (col d 2), bI g (ad 4) 10 (col d 3), bI g (ad 5) 10 (col d 4), bI g (ad 6) 3 (rulF d), bI g (ad 7) 3 cn, bO o 6 (cF (lad 0) t t3 t2 ch kp tp wt)] (QI g (fun r (_ : Unit) => r = R_set d x w v) (fun _ => [bO t 4 (tF (lad 0) ad ((D_set d x w v) 0) ((D_set d x w v) 9) ((D_set d x w v) 5) ((D_set d x w v) 6) ((D_set d x w v) 7) ((D_set d x w v) 1) ((D_set d x w v) 8)), bI g (ad 1) 10 (col (D_set d x w v) 0), bI g (ad 2) 10 (col (D_set d x w v) 1), bI g (ad 3) 10 (col (D_set d x w v) 2), bI g (ad 4) 10 (col (D_set d x w v) 3), bI g (ad 5) 10 (col (D_set d x w v) 4), bI g (ad 6) 3 (rulF (D_set d x w v)), bI g (ad 7) 3 cn, bO o 6 (cF (lad 0) t t3 t2 ch kp tp wt)])) := by
  refine Ct.of (by decide) rfl ?_
  intro p e s m args below meth c A H locs ls Qf cf hr hlk hnm hQ hw hl
  have hx := cf.1
  have hb := cf.2.1
  have hml := cf.2.2.1
  have hown := cf.2.2.2.1
  have hts := cf.2.2.2.2
  have hw : WD g A s H locs [bO t 4 (tF (lad 0) ad (d 0) (d 9) (d 5) (d 6) (d 7) (d 1) (d 8)), bI g (ad 1) 10 (col d 0), bI g (ad 2) 10 (col d 1), bI g (ad 3) 10 (col d 2), bI g (ad 4) 10 (col d 3), bI g (ad 5) 10 (col d 4), bI g (ad 6) 3 (rulF d), bI g (ad 7) 3 cn, bO o 6 (cF (lad 0) t t3 t2 ch kp tp wt)] := hw
  have hl : lv_has ls 4 [(0, .ref o), (1, .int x), (2, .int w), (3, .int v)] := hl
  refine lv_aload_n hx hb dX6_set_0 rfl (lv_at hl 0 rfl) ?_
  refine s_get (v := .ref t) fb6 cf hw 8 rfl 1 rfl q307 rfl dX6_set_1 ?_
  refine lv_iload_n hx hb dX6_set_4 rfl (lv_at hl 1 rfl) ?_
  refine s_calli (runVN cf (x_has (cn := cn) (t := t) (lad := lad) (ad := ad) (d := d) (n := n) hn hn10 x) hw [0] (by decide) rfl km_X4_has ki_X4_has q367 (run_recv (ci := 4) (T := TX4) (N := 15) hw 0 rfl rfl) rfl rfl hl.1 rfl dX6_set_5) hw [0] (by decide) rfl (fun _ => rfl) (fun r_3 u_1 H locs hp_2 hw => ?_)
  have hw : WD g A s H locs [bO t 4 (tF (lad 0) ad (d 0) (d 9) (d 5) (d 6) (d 7) (d 1) (d 8)), bI g (ad 1) 10 (col d 0), bI g (ad 2) 10 (col d 1), bI g (ad 3) 10 (col d 2), bI g (ad 4) 10 (col d 3), bI g (ad 5) 10 (col d 4), bI g (ad 6) 3 (rulF d), bI g (ad 7) 3 cn, bO o 6 (cF (lad 0) t t3 t2 ch kp tp wt)] := hw
  subst hp_2
  refine lv_if_eq (tgt := 31) hx hb dX6_set_8 (by decide) (fun c8 => ?_) (fun c8 => ?_)
  · have c8 := b01_z c8
    refine lv_ldc hx hb hown (hts _ q356) dX6_set_31 ?_
    exact s_iret cf hr hlk () (by have q : D_set d x w v = d := (by unfold D_set; rw [if_neg (by unfold okSet; grind)]); rw [q]; exact hw) (by unfold R_set; rw [if_neg (by unfold okSet; grind)]) (Nat.le_of_ble_eq_true rfl) (Nat.le_of_ble_eq_true rfl) dX6_set_33 hQ
  · have c8 := b01_n c8
    refine lv_iload_n hx hb dX6_set_11 rfl (lv_at hl 3 rfl) ?_
    refine lv_iload_n hx hb dX6_set_12 rfl (lv_at hl 2 rfl) ?_
    refine lv_iconst (v := 4) hx hb dX6_set_13 (by decide) ?_
    refine lv_icmp_ne (tgt := 23) hx hb dX6_set_14 (by decide) (fun c14 => ?_) (fun c14 => ?_)
    · refine lv_bipush (v := 99) hx hb dX6_set_23 (by decide) ?_
      refine s_calli (runS cf (x_isWithin v 99) hw [] (by decide) rfl km_X6_isWithin ks_X6_isWithin q353 rfl rfl hl.1 rfl dX6_set_25) hw [] (by decide) rfl (fun _ => rfl) (fun r_6 u_4 H locs hp_5 hw => ?_)
      have hw : WD g A s H locs [bO t 4 (tF (lad 0) ad (d 0) (d 9) (d 5) (d 6) (d 7) (d 1) (d 8)), bI g (ad 1) 10 (col d 0), bI g (ad 2) 10 (col d 1), bI g (ad 3) 10 (col d 2), bI g (ad 4) 10 (col d 3), bI g (ad 5) 10 (col d 4), bI g (ad 6) 3 (rulF d), bI g (ad 7) 3 cn, bO o 6 (cF (lad 0) t t3 t2 ch kp tp wt)] := hw
      subst hp_5
      refine lv_if_ne (tgt := 34) hx hb dX6_set_28 (by decide) (fun c28 => ?_) (fun c28 => ?_)
      · have c28 := b01_n c28
        obtain ⟨j, hjn, hxj, hcl⟩ := isH_nat hn hn10 c8
        subst hxj
        refine lv_iload_n hx hb dX6_set_34 rfl (lv_at hl 2 rfl) ?_
        by_cases t35_1 : w = 1
        · refine lv_tableIn (tgt := 64) (off := 29) hx hb dX6_set_35 (by rw [t35_1]; decide) (by rw [t35_1]; decide) (by rw [t35_1]; decide) (by decide) ?_
          refine lv_aload_n hx hb dX6_set_64 rfl (lv_at hl 0 rfl) ?_
          refine s_get (v := .ref t) fb6 cf hw 8 rfl 1 rfl q307 rfl dX6_set_65 ?_
          refine s_getN (v := .ref (ad 2)) fb4 cf hw 0 rfl 2 rfl q160 rfl dX6_set_68 ?_
          refine lv_iload_n hx hb dX6_set_71 rfl (lv_at hl 1 rfl) ?_
          refine lv_iload_n hx hb dX6_set_72 rfl (lv_at hl 3 rfl) ?_
          refine s_calli (runS cf (x_replaced (x := ad 2) (n := 10) (f := col d 1) rfl j (by omega) v) hw [2] (by decide) rfl km_X6_replaced ks_X6_replaced q450 rfl rfl hl.1 rfl dX6_set_73) hw [2] (by decide) rfl (fun _ => rfl) (fun r_9 u_7 H locs hp_8 hw => ?_)
          have hw : WD g A s H locs [bO t 4 (tF (lad 0) ad (d 0) (d 9) (d 5) (d 6) (d 7) (d 1) (d 8)), bI g (ad 1) 10 (col d 0), bI g (ad 2) 10 (upd (col d 1) j v), bI g (ad 3) 10 (col d 2), bI g (ad 4) 10 (col d 3), bI g (ad 5) 10 (col d 4), bI g (ad 6) 3 (rulF d), bI g (ad 7) 3 cn, bO o 6 (cF (lad 0) t t3 t2 ch kp tp wt)] := hw
          subst hp_8
          have hok : okSet d (nI j) w v := ⟨c8, by rw [t35_1]; decide, by first | exact c28 | (rw [if_pos (by grind)]; exact c28) | (rw [if_neg (by grind)]; exact c28)⟩
          exact s_iret cf hr hlk () (by have q : D_set d (nI j) w v = upd d (10 + 5 * j + 1) v := (by unfold D_set; rw [if_pos hok, hcl, t35_1]; rfl); rw [q]; exact tw_wd (rest := [bO o 6 (cF (lad 0) t t3 t2 ch kp tp wt)]) (e := upd d (10 + 5 * j + 1) v) (tw_h j 1 v (by omega) (tw_id d)) hw) (by unfold R_set; rw [if_pos hok, hcl, t35_1]; rfl) (Nat.le_of_ble_eq_true rfl) (Nat.le_of_ble_eq_true rfl) dX6_set_76 hQ
        by_cases t35_2 : w = 2
        · refine lv_tableIn (tgt := 77) (off := 42) hx hb dX6_set_35 (by rw [t35_2]; decide) (by rw [t35_2]; decide) (by rw [t35_2]; decide) (by decide) ?_
          refine lv_aload_n hx hb dX6_set_77 rfl (lv_at hl 0 rfl) ?_
          refine s_get (v := .ref t) fb6 cf hw 8 rfl 1 rfl q307 rfl dX6_set_78 ?_
          refine s_getN (v := .ref (ad 3)) fb4 cf hw 0 rfl 3 rfl q162 rfl dX6_set_81 ?_
          refine lv_iload_n hx hb dX6_set_84 rfl (lv_at hl 1 rfl) ?_
          refine lv_iload_n hx hb dX6_set_85 rfl (lv_at hl 3 rfl) ?_
          refine s_calli (runS cf (x_replaced (x := ad 3) (n := 10) (f := col d 2) rfl j (by omega) v) hw [3] (by decide) rfl km_X6_replaced ks_X6_replaced q450 rfl rfl hl.1 rfl dX6_set_86) hw [3] (by decide) rfl (fun _ => rfl) (fun r_12 u_10 H locs hp_11 hw => ?_)
          have hw : WD g A s H locs [bO t 4 (tF (lad 0) ad (d 0) (d 9) (d 5) (d 6) (d 7) (d 1) (d 8)), bI g (ad 1) 10 (col d 0), bI g (ad 2) 10 (col d 1), bI g (ad 3) 10 (upd (col d 2) j v), bI g (ad 4) 10 (col d 3), bI g (ad 5) 10 (col d 4), bI g (ad 6) 3 (rulF d), bI g (ad 7) 3 cn, bO o 6 (cF (lad 0) t t3 t2 ch kp tp wt)] := hw
          subst hp_11
          have hok : okSet d (nI j) w v := ⟨c8, by rw [t35_2]; decide, by first | exact c28 | (rw [if_pos (by grind)]; exact c28) | (rw [if_neg (by grind)]; exact c28)⟩
          exact s_iret cf hr hlk () (by have q : D_set d (nI j) w v = upd d (10 + 5 * j + 2) v := (by unfold D_set; rw [if_pos hok, hcl, t35_2]; rfl); rw [q]; exact tw_wd (rest := [bO o 6 (cF (lad 0) t t3 t2 ch kp tp wt)]) (e := upd d (10 + 5 * j + 2) v) (tw_h j 2 v (by omega) (tw_id d)) hw) (by unfold R_set; rw [if_pos hok, hcl, t35_2]; rfl) (Nat.le_of_ble_eq_true rfl) (Nat.le_of_ble_eq_true rfl) dX6_set_89 hQ
        by_cases t35_3 : w = 3
        · refine lv_tableIn (tgt := 90) (off := 55) hx hb dX6_set_35 (by rw [t35_3]; decide) (by rw [t35_3]; decide) (by rw [t35_3]; decide) (by decide) ?_
          refine lv_aload_n hx hb dX6_set_90 rfl (lv_at hl 0 rfl) ?_
          refine s_get (v := .ref t) fb6 cf hw 8 rfl 1 rfl q307 rfl dX6_set_91 ?_
          refine s_getN (v := .ref (ad 4)) fb4 cf hw 0 rfl 4 rfl q165 rfl dX6_set_94 ?_
          refine lv_iload_n hx hb dX6_set_97 rfl (lv_at hl 1 rfl) ?_
          refine lv_iload_n hx hb dX6_set_98 rfl (lv_at hl 3 rfl) ?_
          refine s_calli (runS cf (x_replaced (x := ad 4) (n := 10) (f := col d 3) rfl j (by omega) v) hw [4] (by decide) rfl km_X6_replaced ks_X6_replaced q450 rfl rfl hl.1 rfl dX6_set_99) hw [4] (by decide) rfl (fun _ => rfl) (fun r_15 u_13 H locs hp_14 hw => ?_)
          have hw : WD g A s H locs [bO t 4 (tF (lad 0) ad (d 0) (d 9) (d 5) (d 6) (d 7) (d 1) (d 8)), bI g (ad 1) 10 (col d 0), bI g (ad 2) 10 (col d 1), bI g (ad 3) 10 (col d 2), bI g (ad 4) 10 (upd (col d 3) j v), bI g (ad 5) 10 (col d 4), bI g (ad 6) 3 (rulF d), bI g (ad 7) 3 cn, bO o 6 (cF (lad 0) t t3 t2 ch kp tp wt)] := hw
          subst hp_14
          have hok : okSet d (nI j) w v := ⟨c8, by rw [t35_3]; decide, by first | exact c28 | (rw [if_pos (by grind)]; exact c28) | (rw [if_neg (by grind)]; exact c28)⟩
          exact s_iret cf hr hlk () (by have q : D_set d (nI j) w v = upd d (10 + 5 * j + 3) v := (by unfold D_set; rw [if_pos hok, hcl, t35_3]; rfl); rw [q]; exact tw_wd (rest := [bO o 6 (cF (lad 0) t t3 t2 ch kp tp wt)]) (e := upd d (10 + 5 * j + 3) v) (tw_h j 3 v (by omega) (tw_id d)) hw) (by unfold R_set; rw [if_pos hok, hcl, t35_3]; rfl) (Nat.le_of_ble_eq_true rfl) (Nat.le_of_ble_eq_true rfl) dX6_set_102 hQ
        by_cases t35_4 : w = 4
        · refine lv_tableIn (tgt := 103) (off := 68) hx hb dX6_set_35 (by rw [t35_4]; decide) (by rw [t35_4]; decide) (by rw [t35_4]; decide) (by decide) ?_
          refine lv_aload_n hx hb dX6_set_103 rfl (lv_at hl 0 rfl) ?_
          refine s_get (v := .ref t) fb6 cf hw 8 rfl 1 rfl q307 rfl dX6_set_104 ?_
          refine s_getN (v := .ref (ad 5)) fb4 cf hw 0 rfl 5 rfl q168 rfl dX6_set_107 ?_
          refine lv_iload_n hx hb dX6_set_110 rfl (lv_at hl 1 rfl) ?_
          refine lv_iload_n hx hb dX6_set_111 rfl (lv_at hl 3 rfl) ?_
          refine s_calli (runS cf (x_replaced (x := ad 5) (n := 10) (f := col d 4) rfl j (by omega) v) hw [5] (by decide) rfl km_X6_replaced ks_X6_replaced q450 rfl rfl hl.1 rfl dX6_set_112) hw [5] (by decide) rfl (fun _ => rfl) (fun r_18 u_16 H locs hp_17 hw => ?_)
          have hw : WD g A s H locs [bO t 4 (tF (lad 0) ad (d 0) (d 9) (d 5) (d 6) (d 7) (d 1) (d 8)), bI g (ad 1) 10 (col d 0), bI g (ad 2) 10 (col d 1), bI g (ad 3) 10 (col d 2), bI g (ad 4) 10 (col d 3), bI g (ad 5) 10 (upd (col d 4) j v), bI g (ad 6) 3 (rulF d), bI g (ad 7) 3 cn, bO o 6 (cF (lad 0) t t3 t2 ch kp tp wt)] := hw
          subst hp_17
          have hok : okSet d (nI j) w v := ⟨c8, by rw [t35_4]; decide, by first | exact c28 | (rw [if_pos (by grind)]; exact c28) | (rw [if_neg (by grind)]; exact c28)⟩
          exact s_iret cf hr hlk () (by have q : D_set d (nI j) w v = upd d (10 + 5 * j + 4) v := (by unfold D_set; rw [if_pos hok, hcl, t35_4]; rfl); rw [q]; exact tw_wd (rest := [bO o 6 (cF (lad 0) t t3 t2 ch kp tp wt)]) (e := upd d (10 + 5 * j + 4) v) (tw_h j 4 v (by omega) (tw_id d)) hw) (by unfold R_set; rw [if_pos hok, hcl, t35_4]; rfl) (Nat.le_of_ble_eq_true rfl) (Nat.le_of_ble_eq_true rfl) dX6_set_115 hQ
        refine lv_tableOut (tgt := 116) hx hb dX6_set_35 (by have e0 := lv_neT t35_1 (show (1 : Int32).toInt = 1 from rfl); have e1 := lv_neT t35_2 (show (2 : Int32).toInt = 2 from rfl); have e2 := lv_neT t35_3 (show (3 : Int32).toInt = 3 from rfl); have e3 := lv_neT t35_4 (show (4 : Int32).toInt = 4 from rfl); omega) (by decide) ?_
        refine lv_ldc hx hb hown (hts _ q356) dX6_set_116 ?_
        have hno : ¬ (1 ≤ w ∧ w ≤ 4) := by
          intro z
          obtain ⟨wn, hwn, ew⟩ := rng_nat (m := 4) (by omega) (show 0 ≤ w by have := z.1; grind) z.2
          rcases (show wn = 0 ∨ wn = 1 ∨ wn = 2 ∨ wn = 3 ∨ wn = 4 by omega) with e0 | e0 | e0 | e0 | e0
          · exact absurd z.1 (by rw [ew, e0]; decide)
          · exact t35_1 (by rw [ew, e0]; rfl)
          · exact t35_2 (by rw [ew, e0]; rfl)
          · exact t35_3 (by rw [ew, e0]; rfl)
          · exact t35_4 (by rw [ew, e0]; rfl)
        exact s_iret cf hr hlk () (by have q : D_set d (nI j) w v = d := (by unfold D_set; rw [if_neg (fun z => hno z.2.1)]); rw [q]; exact hw) (by unfold R_set; rw [if_neg (fun z => hno z.2.1)]) (Nat.le_of_ble_eq_true rfl) (Nat.le_of_ble_eq_true rfl) dX6_set_118 hQ
      · have c28 := b01_z c28
        refine lv_ldc hx hb hown (hts _ q356) dX6_set_31 ?_
        exact s_iret cf hr hlk () (by have q : D_set d x w v = d := (by unfold D_set; rw [if_neg (by unfold okSet; grind)]); rw [q]; exact hw) (by unfold R_set; rw [if_neg (by unfold okSet; grind)]) (Nat.le_of_ble_eq_true rfl) (Nat.le_of_ble_eq_true rfl) dX6_set_33 hQ
    · refine lv_sipush (v := 9999) hx hb dX6_set_17 (by decide) ?_
      refine lv_goto (tgt := 25) hx hb dX6_set_20 (by decide) ?_
      refine s_calli (runS cf (x_isWithin v 9999) hw [] (by decide) rfl km_X6_isWithin ks_X6_isWithin q353 rfl rfl hl.1 rfl dX6_set_25) hw [] (by decide) rfl (fun _ => rfl) (fun r_21 u_19 H locs hp_20 hw => ?_)
      have hw : WD g A s H locs [bO t 4 (tF (lad 0) ad (d 0) (d 9) (d 5) (d 6) (d 7) (d 1) (d 8)), bI g (ad 1) 10 (col d 0), bI g (ad 2) 10 (col d 1), bI g (ad 3) 10 (col d 2), bI g (ad 4) 10 (col d 3), bI g (ad 5) 10 (col d 4), bI g (ad 6) 3 (rulF d), bI g (ad 7) 3 cn, bO o 6 (cF (lad 0) t t3 t2 ch kp tp wt)] := hw
      subst hp_20
      refine lv_if_ne (tgt := 34) hx hb dX6_set_28 (by decide) (fun c28 => ?_) (fun c28 => ?_)
      · have c28 := b01_n c28
        obtain ⟨j, hjn, hxj, hcl⟩ := isH_nat hn hn10 c8
        subst hxj
        refine lv_iload_n hx hb dX6_set_34 rfl (lv_at hl 2 rfl) ?_
        by_cases t35_1 : w = 1
        · refine lv_tableIn (tgt := 64) (off := 29) hx hb dX6_set_35 (by rw [t35_1]; decide) (by rw [t35_1]; decide) (by rw [t35_1]; decide) (by decide) ?_
          refine lv_aload_n hx hb dX6_set_64 rfl (lv_at hl 0 rfl) ?_
          refine s_get (v := .ref t) fb6 cf hw 8 rfl 1 rfl q307 rfl dX6_set_65 ?_
          refine s_getN (v := .ref (ad 2)) fb4 cf hw 0 rfl 2 rfl q160 rfl dX6_set_68 ?_
          refine lv_iload_n hx hb dX6_set_71 rfl (lv_at hl 1 rfl) ?_
          refine lv_iload_n hx hb dX6_set_72 rfl (lv_at hl 3 rfl) ?_
          refine s_calli (runS cf (x_replaced (x := ad 2) (n := 10) (f := col d 1) rfl j (by omega) v) hw [2] (by decide) rfl km_X6_replaced ks_X6_replaced q450 rfl rfl hl.1 rfl dX6_set_73) hw [2] (by decide) rfl (fun _ => rfl) (fun r_24 u_22 H locs hp_23 hw => ?_)
          have hw : WD g A s H locs [bO t 4 (tF (lad 0) ad (d 0) (d 9) (d 5) (d 6) (d 7) (d 1) (d 8)), bI g (ad 1) 10 (col d 0), bI g (ad 2) 10 (upd (col d 1) j v), bI g (ad 3) 10 (col d 2), bI g (ad 4) 10 (col d 3), bI g (ad 5) 10 (col d 4), bI g (ad 6) 3 (rulF d), bI g (ad 7) 3 cn, bO o 6 (cF (lad 0) t t3 t2 ch kp tp wt)] := hw
          subst hp_23
          have hok : okSet d (nI j) w v := ⟨c8, by rw [t35_1]; decide, by first | exact c28 | (rw [if_pos (by grind)]; exact c28) | (rw [if_neg (by grind)]; exact c28)⟩
          exact s_iret cf hr hlk () (by have q : D_set d (nI j) w v = upd d (10 + 5 * j + 1) v := (by unfold D_set; rw [if_pos hok, hcl, t35_1]; rfl); rw [q]; exact tw_wd (rest := [bO o 6 (cF (lad 0) t t3 t2 ch kp tp wt)]) (e := upd d (10 + 5 * j + 1) v) (tw_h j 1 v (by omega) (tw_id d)) hw) (by unfold R_set; rw [if_pos hok, hcl, t35_1]; rfl) (Nat.le_of_ble_eq_true rfl) (Nat.le_of_ble_eq_true rfl) dX6_set_76 hQ
        by_cases t35_2 : w = 2
        · refine lv_tableIn (tgt := 77) (off := 42) hx hb dX6_set_35 (by rw [t35_2]; decide) (by rw [t35_2]; decide) (by rw [t35_2]; decide) (by decide) ?_
          refine lv_aload_n hx hb dX6_set_77 rfl (lv_at hl 0 rfl) ?_
          refine s_get (v := .ref t) fb6 cf hw 8 rfl 1 rfl q307 rfl dX6_set_78 ?_
          refine s_getN (v := .ref (ad 3)) fb4 cf hw 0 rfl 3 rfl q162 rfl dX6_set_81 ?_
          refine lv_iload_n hx hb dX6_set_84 rfl (lv_at hl 1 rfl) ?_
          refine lv_iload_n hx hb dX6_set_85 rfl (lv_at hl 3 rfl) ?_
          refine s_calli (runS cf (x_replaced (x := ad 3) (n := 10) (f := col d 2) rfl j (by omega) v) hw [3] (by decide) rfl km_X6_replaced ks_X6_replaced q450 rfl rfl hl.1 rfl dX6_set_86) hw [3] (by decide) rfl (fun _ => rfl) (fun r_27 u_25 H locs hp_26 hw => ?_)
          have hw : WD g A s H locs [bO t 4 (tF (lad 0) ad (d 0) (d 9) (d 5) (d 6) (d 7) (d 1) (d 8)), bI g (ad 1) 10 (col d 0), bI g (ad 2) 10 (col d 1), bI g (ad 3) 10 (upd (col d 2) j v), bI g (ad 4) 10 (col d 3), bI g (ad 5) 10 (col d 4), bI g (ad 6) 3 (rulF d), bI g (ad 7) 3 cn, bO o 6 (cF (lad 0) t t3 t2 ch kp tp wt)] := hw
          subst hp_26
          have hok : okSet d (nI j) w v := ⟨c8, by rw [t35_2]; decide, by first | exact c28 | (rw [if_pos (by grind)]; exact c28) | (rw [if_neg (by grind)]; exact c28)⟩
          exact s_iret cf hr hlk () (by have q : D_set d (nI j) w v = upd d (10 + 5 * j + 2) v := (by unfold D_set; rw [if_pos hok, hcl, t35_2]; rfl); rw [q]; exact tw_wd (rest := [bO o 6 (cF (lad 0) t t3 t2 ch kp tp wt)]) (e := upd d (10 + 5 * j + 2) v) (tw_h j 2 v (by omega) (tw_id d)) hw) (by unfold R_set; rw [if_pos hok, hcl, t35_2]; rfl) (Nat.le_of_ble_eq_true rfl) (Nat.le_of_ble_eq_true rfl) dX6_set_89 hQ
        by_cases t35_3 : w = 3
        · refine lv_tableIn (tgt := 90) (off := 55) hx hb dX6_set_35 (by rw [t35_3]; decide) (by rw [t35_3]; decide) (by rw [t35_3]; decide) (by decide) ?_
          refine lv_aload_n hx hb dX6_set_90 rfl (lv_at hl 0 rfl) ?_
          refine s_get (v := .ref t) fb6 cf hw 8 rfl 1 rfl q307 rfl dX6_set_91 ?_
          refine s_getN (v := .ref (ad 4)) fb4 cf hw 0 rfl 4 rfl q165 rfl dX6_set_94 ?_
          refine lv_iload_n hx hb dX6_set_97 rfl (lv_at hl 1 rfl) ?_
          refine lv_iload_n hx hb dX6_set_98 rfl (lv_at hl 3 rfl) ?_
          refine s_calli (runS cf (x_replaced (x := ad 4) (n := 10) (f := col d 3) rfl j (by omega) v) hw [4] (by decide) rfl km_X6_replaced ks_X6_replaced q450 rfl rfl hl.1 rfl dX6_set_99) hw [4] (by decide) rfl (fun _ => rfl) (fun r_30 u_28 H locs hp_29 hw => ?_)
          have hw : WD g A s H locs [bO t 4 (tF (lad 0) ad (d 0) (d 9) (d 5) (d 6) (d 7) (d 1) (d 8)), bI g (ad 1) 10 (col d 0), bI g (ad 2) 10 (col d 1), bI g (ad 3) 10 (col d 2), bI g (ad 4) 10 (upd (col d 3) j v), bI g (ad 5) 10 (col d 4), bI g (ad 6) 3 (rulF d), bI g (ad 7) 3 cn, bO o 6 (cF (lad 0) t t3 t2 ch kp tp wt)] := hw
          subst hp_29
          have hok : okSet d (nI j) w v := ⟨c8, by rw [t35_3]; decide, by first | exact c28 | (rw [if_pos (by grind)]; exact c28) | (rw [if_neg (by grind)]; exact c28)⟩
          exact s_iret cf hr hlk () (by have q : D_set d (nI j) w v = upd d (10 + 5 * j + 3) v := (by unfold D_set; rw [if_pos hok, hcl, t35_3]; rfl); rw [q]; exact tw_wd (rest := [bO o 6 (cF (lad 0) t t3 t2 ch kp tp wt)]) (e := upd d (10 + 5 * j + 3) v) (tw_h j 3 v (by omega) (tw_id d)) hw) (by unfold R_set; rw [if_pos hok, hcl, t35_3]; rfl) (Nat.le_of_ble_eq_true rfl) (Nat.le_of_ble_eq_true rfl) dX6_set_102 hQ
        by_cases t35_4 : w = 4
        · refine lv_tableIn (tgt := 103) (off := 68) hx hb dX6_set_35 (by rw [t35_4]; decide) (by rw [t35_4]; decide) (by rw [t35_4]; decide) (by decide) ?_
          refine lv_aload_n hx hb dX6_set_103 rfl (lv_at hl 0 rfl) ?_
          refine s_get (v := .ref t) fb6 cf hw 8 rfl 1 rfl q307 rfl dX6_set_104 ?_
          refine s_getN (v := .ref (ad 5)) fb4 cf hw 0 rfl 5 rfl q168 rfl dX6_set_107 ?_
          refine lv_iload_n hx hb dX6_set_110 rfl (lv_at hl 1 rfl) ?_
          refine lv_iload_n hx hb dX6_set_111 rfl (lv_at hl 3 rfl) ?_
          refine s_calli (runS cf (x_replaced (x := ad 5) (n := 10) (f := col d 4) rfl j (by omega) v) hw [5] (by decide) rfl km_X6_replaced ks_X6_replaced q450 rfl rfl hl.1 rfl dX6_set_112) hw [5] (by decide) rfl (fun _ => rfl) (fun r_33 u_31 H locs hp_32 hw => ?_)
          have hw : WD g A s H locs [bO t 4 (tF (lad 0) ad (d 0) (d 9) (d 5) (d 6) (d 7) (d 1) (d 8)), bI g (ad 1) 10 (col d 0), bI g (ad 2) 10 (col d 1), bI g (ad 3) 10 (col d 2), bI g (ad 4) 10 (col d 3), bI g (ad 5) 10 (upd (col d 4) j v), bI g (ad 6) 3 (rulF d), bI g (ad 7) 3 cn, bO o 6 (cF (lad 0) t t3 t2 ch kp tp wt)] := hw
          subst hp_32
          have hok : okSet d (nI j) w v := ⟨c8, by rw [t35_4]; decide, by first | exact c28 | (rw [if_pos (by grind)]; exact c28) | (rw [if_neg (by grind)]; exact c28)⟩
          exact s_iret cf hr hlk () (by have q : D_set d (nI j) w v = upd d (10 + 5 * j + 4) v := (by unfold D_set; rw [if_pos hok, hcl, t35_4]; rfl); rw [q]; exact tw_wd (rest := [bO o 6 (cF (lad 0) t t3 t2 ch kp tp wt)]) (e := upd d (10 + 5 * j + 4) v) (tw_h j 4 v (by omega) (tw_id d)) hw) (by unfold R_set; rw [if_pos hok, hcl, t35_4]; rfl) (Nat.le_of_ble_eq_true rfl) (Nat.le_of_ble_eq_true rfl) dX6_set_115 hQ
        refine lv_tableOut (tgt := 116) hx hb dX6_set_35 (by have e0 := lv_neT t35_1 (show (1 : Int32).toInt = 1 from rfl); have e1 := lv_neT t35_2 (show (2 : Int32).toInt = 2 from rfl); have e2 := lv_neT t35_3 (show (3 : Int32).toInt = 3 from rfl); have e3 := lv_neT t35_4 (show (4 : Int32).toInt = 4 from rfl); omega) (by decide) ?_
        refine lv_ldc hx hb hown (hts _ q356) dX6_set_116 ?_
        have hno : ¬ (1 ≤ w ∧ w ≤ 4) := by
          intro z
          obtain ⟨wn, hwn, ew⟩ := rng_nat (m := 4) (by omega) (show 0 ≤ w by have := z.1; grind) z.2
          rcases (show wn = 0 ∨ wn = 1 ∨ wn = 2 ∨ wn = 3 ∨ wn = 4 by omega) with e0 | e0 | e0 | e0 | e0
          · exact absurd z.1 (by rw [ew, e0]; decide)
          · exact t35_1 (by rw [ew, e0]; rfl)
          · exact t35_2 (by rw [ew, e0]; rfl)
          · exact t35_3 (by rw [ew, e0]; rfl)
          · exact t35_4 (by rw [ew, e0]; rfl)
        exact s_iret cf hr hlk () (by have q : D_set d (nI j) w v = d := (by unfold D_set; rw [if_neg (fun z => hno z.2.1)]); rw [q]; exact hw) (by unfold R_set; rw [if_neg (fun z => hno z.2.1)]) (Nat.le_of_ble_eq_true rfl) (Nat.le_of_ble_eq_true rfl) dX6_set_118 hQ
      · have c28 := b01_z c28
        refine lv_ldc hx hb hown (hts _ q356) dX6_set_31 ?_
        exact s_iret cf hr hlk () (by have q : D_set d x w v = d := (by unfold D_set; rw [if_neg (by unfold okSet; grind)]); rw [q]; exact hw) (by unfold R_set; rw [if_neg (by unfold okSet; grind)]) (Nat.le_of_ble_eq_true rfl) (Nat.le_of_ble_eq_true rfl) dX6_set_33 hQ
set_option maxRecDepth 100000 in
set_option maxHeartbeats 4000000 in
theorem c_rule {l : Launch} {g : GG} {t : Nat} {lad ad : Nat → Nat} {d cn : DD} {o t2 t3 : Nat} {ch : Nat → Nat} {kp tp wt : Int32} (w v : Int32) : Ct l g yX6_rule cX6_rule 3 (Option.some Jvm.ClassFile.FieldType.int) 1 0 0 [.ref o, .int w, .int v] [bO t 4 (tF (lad 0) ad (d 0) (d 9) (d 5) (d 6) (d 7) (d 1) (d 8)), bI g (ad 1) 10 (col d 0), bI g (ad 2) 10 (col d 1), bI g (ad 3) 10 (col d 2), bI g (ad 4) 10 (col d 3), bI g (ad 5) 10 (col d 4), bI g (ad 6) 3 (rulF d), bI g (ad 7) 3 cn, bO o 6 (cF (lad 0) t t3 t2 ch kp tp wt)] (QI g (fun r (_ : Unit) => r = R_rule d w v) (fun _ => [bO t 4 (tF (lad 0) ad ((D_rule d w v) 0) ((D_rule d w v) 9) ((D_rule d w v) 5) ((D_rule d w v) 6) ((D_rule d w v) 7) ((D_rule d w v) 1) ((D_rule d w v) 8)), bI g (ad 1) 10 (col (D_rule d w v) 0), bI g (ad 2) 10 (col (D_rule d w v) 1), bI g (ad 3) 10 (col (D_rule d w v) 2), bI g (ad 4) 10 (col (D_rule d w v) 3), bI g (ad 5) 10 (col (D_rule d w v) 4), bI g (ad 6) 3 (rulF (D_rule d w v)), bI g (ad 7) 3 cn, bO o 6 (cF (lad 0) t t3 t2 ch kp tp wt)])) := by
  refine Ct.of (by decide) rfl ?_
  intro p e s m args below meth c A H locs ls Qf cf hr hlk hnm hQ hw hl
  have hx := cf.1
  have hb := cf.2.1
  have hml := cf.2.2.1
  have hown := cf.2.2.2.1
  have hts := cf.2.2.2.2
  have hw : WD g A s H locs [bO t 4 (tF (lad 0) ad (d 0) (d 9) (d 5) (d 6) (d 7) (d 1) (d 8)), bI g (ad 1) 10 (col d 0), bI g (ad 2) 10 (col d 1), bI g (ad 3) 10 (col d 2), bI g (ad 4) 10 (col d 3), bI g (ad 5) 10 (col d 4), bI g (ad 6) 3 (rulF d), bI g (ad 7) 3 cn, bO o 6 (cF (lad 0) t t3 t2 ch kp tp wt)] := hw
  have hl : lv_has ls 3 [(0, .ref o), (1, .int w), (2, .int v)] := hl
  refine lv_iload_n hx hb dX6_rule_0 rfl (lv_at hl 1 rfl) ?_
  refine lv_if_lt (tgt := 24) hx hb dX6_rule_1 (by decide) (fun c1 => ?_) (fun c1 => ?_)
  · refine lv_ldc hx hb hown (hts _ q356) dX6_rule_24 ?_
    exact s_iret cf hr hlk () (by have q : D_rule d w v = d := (by unfold D_rule; rw [if_neg (by unfold okRule; grind)]); rw [q]; exact hw) (by unfold R_rule; rw [if_neg (by unfold okRule; grind)]) (Nat.le_of_ble_eq_true rfl) (Nat.le_of_ble_eq_true rfl) dX6_rule_26 hQ
  · refine lv_iload_n hx hb dX6_rule_4 rfl (lv_at hl 1 rfl) ?_
    refine va_gets hx hb (hw.2.2.2.2.2.2.2.2.2.2.2.1).1 hw.2.2.2.1 hown (hts _ q457) (fun _ h => h) dX6_rule_5 ?_
    refine va_tlen hx hb (hw.2.2.2.2.2.2.2.2.2.2.2.1).2 hw.2.2.2.1 (v := 3) rfl dX6_rule_8 ?_
    refine lv_icmp_ge (tgt := 24) hx hb dX6_rule_9 (by decide) (fun c9 => ?_) (fun c9 => ?_)
    · refine lv_ldc hx hb hown (hts _ q356) dX6_rule_24 ?_
      exact s_iret cf hr hlk () (by have q : D_rule d w v = d := (by unfold D_rule; rw [if_neg (by unfold okRule; grind)]); rw [q]; exact hw) (by unfold R_rule; rw [if_neg (by unfold okRule; grind)]) (Nat.le_of_ble_eq_true rfl) (Nat.le_of_ble_eq_true rfl) dX6_rule_26 hQ
    · obtain ⟨wn, hwn, hww⟩ := rng_nat (m := 2) (by omega) (show 0 ≤ w by grind) (show w ≤ 2 by have := Int32.not_le.mp c9; grind)
      subst hww
      refine lv_iload_n hx hb dX6_rule_12 rfl (lv_at hl 2 rfl) ?_
      refine va_gets hx hb (hw.2.2.2.2.2.2.2.2.2.2.2.1).1 hw.2.2.2.1 hown (hts _ q457) (fun _ h => h) dX6_rule_13 ?_
      refine lv_iload_n hx hb dX6_rule_16 rfl (lv_at hl 1 rfl) ?_
      refine va_ti hx hb (hw.2.2.2.2.2.2.2.2.2.2.2.1).2 hw.2.2.2.1 (i := nI wn) (v := .int (mrF wn)) (by rw [show (nI wn : Int32) = nI wn from rfl]; exact vp_in_nI (by omega) (by decide)) (by rw [show (nI wn : Int32) = nI wn from rfl, nI_clamp (by omega)]) dX6_rule_17 ?_
      refine s_calli (runS cf (x_isWithin v (mrF wn)) hw [] (by decide) rfl km_X6_isWithin ks_X6_isWithin q353 rfl rfl hl.1 rfl dX6_rule_18) hw [] (by decide) rfl (fun _ => rfl) (fun r_3 u_1 H locs hp_2 hw => ?_)
      have hw : WD g A s H locs [bO t 4 (tF (lad 0) ad (d 0) (d 9) (d 5) (d 6) (d 7) (d 1) (d 8)), bI g (ad 1) 10 (col d 0), bI g (ad 2) 10 (col d 1), bI g (ad 3) 10 (col d 2), bI g (ad 4) 10 (col d 3), bI g (ad 5) 10 (col d 4), bI g (ad 6) 3 (rulF d), bI g (ad 7) 3 cn, bO o 6 (cF (lad 0) t t3 t2 ch kp tp wt)] := hw
      subst hp_2
      refine lv_if_ne (tgt := 27) hx hb dX6_rule_21 (by decide) (fun c21 => ?_) (fun c21 => ?_)
      · have c21 := b01_n c21
        refine lv_aload_n hx hb dX6_rule_27 rfl (lv_at hl 0 rfl) ?_
        refine s_get (v := .ref t) fb6 cf hw 8 rfl 1 rfl q307 rfl dX6_rule_28 ?_
        refine s_getN (v := .ref (ad 6)) fb4 cf hw 0 rfl 6 rfl q170 rfl dX6_rule_31 ?_
        refine lv_iload_n hx hb dX6_rule_34 rfl (lv_at hl 1 rfl) ?_
        refine lv_iload_n hx hb dX6_rule_35 rfl (lv_at hl 2 rfl) ?_
        refine s_calli (runS cf (x_replaced (x := ad 6) (n := 3) (f := rulF d) rfl wn (by omega) v) hw [6] (by decide) rfl km_X6_replaced ks_X6_replaced q450 rfl rfl hl.1 rfl dX6_rule_36) hw [6] (by decide) rfl (fun _ => rfl) (fun r_6 u_4 H locs hp_5 hw => ?_)
        have hw : WD g A s H locs [bO t 4 (tF (lad 0) ad (d 0) (d 9) (d 5) (d 6) (d 7) (d 1) (d 8)), bI g (ad 1) 10 (col d 0), bI g (ad 2) 10 (col d 1), bI g (ad 3) 10 (col d 2), bI g (ad 4) 10 (col d 3), bI g (ad 5) 10 (col d 4), bI g (ad 6) 3 (upd (rulF d) wn v), bI g (ad 7) 3 cn, bO o 6 (cF (lad 0) t t3 t2 ch kp tp wt)] := hw
        subst hp_5
        have hok : okRule (nI wn) v := ⟨⟨nI_pos' (by omega), nI_le (b := 2) (by omega) (by omega)⟩, by rw [← mr_eq hwn]; exact c21⟩
        have hw : WD g A s H locs [bO t 4 (tF (lad 0) ad (d 0) (d 9) (d 5) (d 6) (d 7) (d 1) (d 8)), bI g (ad 1) 10 (col d 0), bI g (ad 2) 10 (col d 1), bI g (ad 3) 10 (col d 2), bI g (ad 4) 10 (col d 3), bI g (ad 5) 10 (col d 4), bI g (ad 6) 3 (rulF (upd d (2 + wn) v)), bI g (ad 7) 3 cn, bO o 6 (cF (lad 0) t t3 t2 ch kp tp wt)] := hw.cong (f' := rulF (upd d (2 + wn) v)) 6 rfl (rul_upd d hwn v)
        exact s_iret cf hr hlk () (by have q : D_rule d (nI wn) v = upd d (2 + wn) v := (by unfold D_rule; rw [if_pos hok, nI_clamp (by omega)]); rw [q]; exact tw_wd (rest := [bO o 6 (cF (lad 0) t t3 t2 ch kp tp wt)]) (e := upd d (2 + wn) v) (tw_rule hwn) hw) (by unfold R_rule; rw [if_pos hok, nI_clamp (by omega)]; exact rul_at d hwn) (Nat.le_of_ble_eq_true rfl) (Nat.le_of_ble_eq_true rfl) dX6_rule_39 hQ
      · have c21 := b01_z c21
        refine lv_ldc hx hb hown (hts _ q356) dX6_rule_24 ?_
        exact s_iret cf hr hlk () (by have q : D_rule d (nI wn) v = d := (by unfold D_rule; rw [if_neg (fun z => c21 (by rw [mr_eq hwn]; exact z.2))]); rw [q]; exact hw) (by unfold R_rule; rw [if_neg (fun z => c21 (by rw [mr_eq hwn]; exact z.2))]) (Nat.le_of_ble_eq_true rfl) (Nat.le_of_ble_eq_true rfl) dX6_rule_26 hQ
set_option maxRecDepth 100000 in
set_option maxHeartbeats 4000000 in
theorem c_deal {l : Launch} {g : GG} {t : Nat} {lad ad : Nat → Nat} {d cn : DD} {n : Nat} (hn : d 0 = nI n) (hn10 : n ≤ 10) {o t2 t3 : Nat} {ch : Nat → Nat} {kp tp wt : Int32} (x : Int32) : Ct l g yX6_deal cX6_deal 4 (Option.some Jvm.ClassFile.FieldType.int) 2 0 0 [.ref o, .int x] [bO t 4 (tF (lad 0) ad (d 0) (d 9) (d 5) (d 6) (d 7) (d 1) (d 8)), bI g (ad 1) 10 (col d 0), bI g (ad 2) 10 (col d 1), bI g (ad 3) 10 (col d 2), bI g (ad 4) 10 (col d 3), bI g (ad 5) 10 (col d 4), bI g (ad 6) 3 (rulF d), bI g (ad 7) 3 cn, bO o 6 (cF (lad 0) t t3 t2 ch kp tp wt)] (QI g (fun r (_ : Unit) => r = R_deal d x) (fun _ => [bO t 4 (tF (lad 0) ad ((D_deal d x) 0) ((D_deal d x) 9) ((D_deal d x) 5) ((D_deal d x) 6) ((D_deal d x) 7) ((D_deal d x) 1) ((D_deal d x) 8)), bI g (ad 1) 10 (col (D_deal d x) 0), bI g (ad 2) 10 (col (D_deal d x) 1), bI g (ad 3) 10 (col (D_deal d x) 2), bI g (ad 4) 10 (col (D_deal d x) 3), bI g (ad 5) 10 (col (D_deal d x) 4), bI g (ad 6) 3 (rulF (D_deal d x)), bI g (ad 7) 3 cn, bO o 6 (cF (lad 0) t t3 t2 ch kp tp wt)])) := by
  refine Ct.of (by decide) rfl ?_
  intro p e s m args below meth c A H locs ls Qf cf hr hlk hnm hQ hw hl
  have hx := cf.1
  have hb := cf.2.1
  have hml := cf.2.2.1
  have hown := cf.2.2.2.1
  have hts := cf.2.2.2.2
  have hw : WD g A s H locs [bO t 4 (tF (lad 0) ad (d 0) (d 9) (d 5) (d 6) (d 7) (d 1) (d 8)), bI g (ad 1) 10 (col d 0), bI g (ad 2) 10 (col d 1), bI g (ad 3) 10 (col d 2), bI g (ad 4) 10 (col d 3), bI g (ad 5) 10 (col d 4), bI g (ad 6) 3 (rulF d), bI g (ad 7) 3 cn, bO o 6 (cF (lad 0) t t3 t2 ch kp tp wt)] := hw
  have hl : lv_has ls 4 [(0, .ref o), (1, .int x)] := hl
  refine lv_iload_n hx hb dX6_deal_0 rfl (lv_at hl 1 rfl) ?_
  refine lv_iconst (v := 1) hx hb dX6_deal_1 (by decide) ?_
  refine lv_icmp_lt (tgt := 11) hx hb dX6_deal_2 (by decide) (fun c2 => ?_) (fun c2 => ?_)
  · refine lv_ldc hx hb hown (hts _ q356) dX6_deal_11 ?_
    exact s_iret cf hr hlk () (by have q : D_deal d x = d := (by unfold D_deal; rw [if_neg (by grind)]); rw [q]; exact hw) (by unfold R_deal; rw [if_neg (by grind)]) (Nat.le_of_ble_eq_true rfl) (Nat.le_of_ble_eq_true rfl) dX6_deal_13 hQ
  · refine lv_iload_n hx hb dX6_deal_5 rfl (lv_at hl 1 rfl) ?_
    refine lv_bipush (v := 10) hx hb dX6_deal_6 (by decide) ?_
    refine lv_icmp_le (tgt := 14) hx hb dX6_deal_8 (by decide) (fun c8 => ?_) (fun c8 => ?_)
    · have hx1 : 1 ≤ x ∧ x ≤ 10 := by grind
      have hdn := deal_le hn hn10 hx1
      refine lv_iload_n hx hb dX6_deal_14 rfl (lv_at hl 1 rfl) ?_
      refine lv_bipush (v := 10) hx hb dX6_deal_15 (by decide) ?_
      refine lv_aload_n hx hb dX6_deal_17 rfl (lv_at hl 0 rfl) ?_
      refine s_get (v := .ref t) fb6 cf hw 8 rfl 1 rfl q307 rfl dX6_deal_18 ?_
      refine s_getN (v := .int (d 0)) fb4 cf hw 0 rfl 8 rfl q174 rfl dX6_deal_21 ?_
      refine lv_isub hx hb dX6_deal_24 ?_
      refine va_mmin hx hb (by rw [hml]; exact hl.1.symm) hown (hts _ q400) (hts _ ks_J9_min_7cf53) (hts _ km_J9_min_7cf53.1) (hts _ km_J9_min_7cf53.2.1) (Nat.le_of_ble_eq_true rfl) (Nat.le_of_ble_eq_true rfl) (Nat.le_of_ble_eq_true rfl) (Nat.le_of_ble_eq_true rfl) dX6_deal_25 ?_
      refine lv_topr (y := nI (dealN d x)) (hdn.1) ?_
      refine lv_istore_n (lv' := [(2, .int (nI (dealN d x))), (0, .ref o), (1, .int x)]) hx hb dX6_deal_28 rfl hl (by decide) rfl (fun ls hl => ?_)
      refine lv_iconst (v := 0) hx hb dX6_deal_29 (by decide) ?_
      refine lv_istore_n (lv' := [(3, .int 0), (2, .int (nI (dealN d x))), (0, .ref o), (1, .int x)]) hx hb dX6_deal_30 rfl hl (by decide) rfl (fun ls hl => ?_)
      have L31 : ∀ (fu : Nat) (i : Nat), (i ≤ dealN d x) → (dealN d x < i + fu) → ∀ (H : Heap) (locs : List Loc) (ls : Array Slot), WD g A s H locs [bO t 4 (tF (lad 0) ad ((lotsF i d) 0) ((lotsF i d) 9) ((lotsF i d) 5) ((lotsF i d) 6) ((lotsF i d) 7) ((lotsF i d) 1) ((lotsF i d) 8)), bI g (ad 1) 10 (col (lotsF i d) 0), bI g (ad 2) 10 (col (lotsF i d) 1), bI g (ad 3) 10 (col (lotsF i d) 2), bI g (ad 4) 10 (col (lotsF i d) 3), bI g (ad 5) 10 (col (lotsF i d) 4), bI g (ad 6) 3 (rulF (lotsF i d)), bI g (ad 7) 3 cn, bO o 6 (cF (lad 0) t t3 t2 ch kp tp wt)] → lv_has ls 4 [(0, .ref o), (1, .int x), (2, .int (nI (dealN d x))), (3, .int (nI i))] → W p l e (rmx 2 0 0) s m args below meth c H locs 0 0 Qf (F0 m 31 ls []) := by
        intro fu
        induction fu with
        | zero => intro i hi hfu; exfalso; omega
        | succ fu ih31 =>
          intro i hi hfu H locs ls hw hl
          refine lv_iload_n hx hb dX6_deal_31 rfl (lv_at hl 3 rfl) ?_
          refine lv_iload_n hx hb dX6_deal_32 rfl (lv_at hl 2 rfl) ?_
          refine lv_icmp_ge (tgt := 49) hx hb dX6_deal_33 (by decide) (fun c33 => ?_) (fun c33 => ?_)
          · have hi2 : dealN d x = i := by have := nI_le_of (by omega) c33 (by omega); omega
            refine lv_iload_n hx hb dX6_deal_49 rfl (lv_at hl 2 rfl) ?_
            exact s_iret cf hr hlk () (by have q : D_deal d x = lotsF (dealN d x) d := (by unfold D_deal; rw [if_pos hx1]); rw [q, hi2]; exact hw) (by unfold R_deal; rw [if_pos hx1]) (Nat.le_of_ble_eq_true rfl) (Nat.le_of_ble_eq_true rfl) dX6_deal_50 hQ
          · have hlt : i < dealN d x := nI_lt_of (by omega) c33 (by omega)
            refine lv_aload_n hx hb dX6_deal_36 rfl (lv_at hl 0 rfl) ?_
            refine s_get (v := .ref t) fb6 cf hw 8 rfl 1 rfl q307 rfl dX6_deal_37 ?_
            refine s_callv (runVN cf (x_lot (t := t) (lad := lad) (ad := ad) (d := (lotsF i d)) (cn := cn) (n := n + i) (lotsF_0 hn i) (by omega) (by omega)) hw [0, 1, 2, 3, 4, 5, 6, 7] (by decide) rfl km_X4_buildByLot ki_X4_buildByLot q463 (run_recv (ci := 4) (T := TX4) (N := 15) hw 0 rfl rfl) rfl rfl hl.1 rfl dX6_deal_40) hw [0, 1, 2, 3, 4, 5, 6, 7] (by decide) rfl (fun _ => rfl) (fun u_1 H locs hp_2 hw => ?_)
            have hw : WD g A s H locs [bO t 4 (tF (lad 0) ad ((lotF (lotsF i d)) 0) ((lotF (lotsF i d)) 9) ((lotF (lotsF i d)) 5) ((lotF (lotsF i d)) 6) ((lotF (lotsF i d)) 7) ((lotF (lotsF i d)) 1) ((lotF (lotsF i d)) 8)), bI g (ad 1) 10 (col (lotF (lotsF i d)) 0), bI g (ad 2) 10 (col (lotF (lotsF i d)) 1), bI g (ad 3) 10 (col (lotF (lotsF i d)) 2), bI g (ad 4) 10 (col (lotF (lotsF i d)) 3), bI g (ad 5) 10 (col (lotF (lotsF i d)) 4), bI g (ad 6) 3 (rulF (lotF (lotsF i d))), bI g (ad 7) 3 cn, bO o 6 (cF (lad 0) t t3 t2 ch kp tp wt)] := hw
            have he : lotsF (i + 1) d = lotF (lotsF i d) := rfl
            have hw : WD g A s H locs [bO t 4 (tF (lad 0) ad ((lotsF (i + 1) d) 0) ((lotsF (i + 1) d) 9) ((lotsF (i + 1) d) 5) ((lotsF (i + 1) d) 6) ((lotsF (i + 1) d) 7) ((lotsF (i + 1) d) 1) ((lotsF (i + 1) d) 8)), bI g (ad 1) 10 (col (lotsF (i + 1) d) 0), bI g (ad 2) 10 (col (lotsF (i + 1) d) 1), bI g (ad 3) 10 (col (lotsF (i + 1) d) 2), bI g (ad 4) 10 (col (lotsF (i + 1) d) 3), bI g (ad 5) 10 (col (lotsF (i + 1) d) 4), bI g (ad 6) 3 (rulF (lotsF (i + 1) d)), bI g (ad 7) 3 cn, bO o 6 (cF (lad 0) t t3 t2 ch kp tp wt)] := by rw [he]; exact hw
            refine lv_iinc (v := nI (i + 1)) (lv' := [(3, .int (nI (i + 1))), (0, .ref o), (1, .int x), (2, .int (nI (dealN d x)))]) hx hb dX6_deal_43 hl (k := 3) rfl (nI_1 i) (by decide) rfl (fun ls hl => ?_)
            refine lv_goto (tgt := 31) hx hb dX6_deal_46 (by decide) ?_
            exact ih31 (i + 1) (by omega) (by omega) _ _ _ hw (lv_sub hl [1, 2, 3, 0] rfl)
      exact L31 (dealN d x + 1) 0 (by omega) (by omega) _ _ _ hw (lv_sub hl [2, 3, 1, 0] rfl)
    · refine lv_ldc hx hb hown (hts _ q356) dX6_deal_11 ?_
      exact s_iret cf hr hlk () (by have q : D_deal d x = d := (by unfold D_deal; rw [if_neg (by grind)]); rw [q]; exact hw) (by unfold R_deal; rw [if_neg (by grind)]) (Nat.le_of_ble_eq_true rfl) (Nat.le_of_ble_eq_true rfl) dX6_deal_13 hQ
set_option maxRecDepth 100000 in
set_option maxHeartbeats 4000000 in
theorem c_nights {l : Launch} {g : GG} {t : Nat} {lad ad : Nat → Nat} {d cn : DD} {nm st_ : DD} {tr : Nat → Option Nat} {txb : va_W} {ft : TXC} (hF : FitAt g tr txb (cn 0) ft) (hFo : okF ft) (hI : InvH d) {o t2 t3 : Nat} {ch : Nat → Nat} {kp tp wt : Int32} {ni : Nat} (hni : d 1 = nI ni) (h9 : ni ≤ 9999) (x : Int32) : Ct l g yX6_nights cX6_nights 3 (Option.some Jvm.ClassFile.FieldType.int) 6 0 0 [.ref o, .int x] [bO t 4 (tF (lad 0) ad (d 0) (d 9) (d 5) (d 6) (d 7) (d 1) (d 8)), bI g (ad 1) 10 (col d 0), bI g (ad 2) 10 (col d 1), bI g (ad 3) 10 (col d 2), bI g (ad 4) 10 (col d 3), bI g (ad 5) 10 (col d 4), bI g (ad 6) 3 (rulF d), bI g (ad 7) 3 cn, bO (lad 0) 0 ([.ref (lad 1), .ref (lad 2), .ref (lad 3)]), bR g 4 (lad 1) 14 tr, bI g (lad 2) 6 nm, bI g (lad 3) 96 st_, txb, bO o 6 (cF (lad 0) t t3 t2 ch kp tp wt)] (QI g (fun r (_ : DD × DD) => r = R_nights ft d x) (fun u => [bO t 4 (tF (lad 0) ad ((D_nights ft d x) 0) ((D_nights ft d x) 9) ((D_nights ft d x) 5) ((D_nights ft d x) 6) ((D_nights ft d x) 7) ((D_nights ft d x) 1) ((D_nights ft d x) 8)), bI g (ad 1) 10 (col (D_nights ft d x) 0), bI g (ad 2) 10 (col (D_nights ft d x) 1), bI g (ad 3) 10 (col (D_nights ft d x) 2), bI g (ad 4) 10 (col (D_nights ft d x) 3), bI g (ad 5) 10 (col (D_nights ft d x) 4), bI g (ad 6) 3 (rulF (D_nights ft d x)), bI g (ad 7) 3 cn, bO (lad 0) 0 ([.ref (lad 1), .ref (lad 2), .ref (lad 3)]), bR g 4 (lad 1) 14 tr, bI g (lad 2) 6 u.1, bI g (lad 3) 96 u.2, txb, bO o 6 (cF (lad 0) t t3 t2 ch kp tp wt)])) := by
  refine Ct.of (by decide) rfl ?_
  intro p e s m args below meth c A H locs ls Qf cf hr hlk hnm hQ hw hl
  have hx := cf.1
  have hb := cf.2.1
  have hml := cf.2.2.1
  have hown := cf.2.2.2.1
  have hts := cf.2.2.2.2
  have hw : WD g A s H locs [bO t 4 (tF (lad 0) ad (d 0) (d 9) (d 5) (d 6) (d 7) (d 1) (d 8)), bI g (ad 1) 10 (col d 0), bI g (ad 2) 10 (col d 1), bI g (ad 3) 10 (col d 2), bI g (ad 4) 10 (col d 3), bI g (ad 5) 10 (col d 4), bI g (ad 6) 3 (rulF d), bI g (ad 7) 3 cn, bO (lad 0) 0 ([.ref (lad 1), .ref (lad 2), .ref (lad 3)]), bR g 4 (lad 1) 14 tr, bI g (lad 2) 6 nm, bI g (lad 3) 96 st_, txb, bO o 6 (cF (lad 0) t t3 t2 ch kp tp wt)] := hw
  have hl : lv_has ls 3 [(0, .ref o), (1, .int x)] := hl
  refine lv_iload_n hx hb dX6_nights_0 rfl (lv_at hl 1 rfl) ?_
  refine lv_iconst (v := 1) hx hb dX6_nights_1 (by decide) ?_
  refine lv_icmp_lt (tgt := 11) hx hb dX6_nights_2 (by decide) (fun c2 => ?_) (fun c2 => ?_)
  · refine lv_ldc hx hb hown (hts _ q356) dX6_nights_11 ?_
    exact s_iret cf hr hlk (nm, st_) (by have q : D_nights ft d x = d := (by unfold D_nights; rw [if_neg (by grind)]); rw [q]; exact hw) (by unfold R_nights; rw [if_neg (by grind)]) (Nat.le_of_ble_eq_true rfl) (Nat.le_of_ble_eq_true rfl) dX6_nights_13 hQ
  · refine lv_iload_n hx hb dX6_nights_5 rfl (lv_at hl 1 rfl) ?_
    refine lv_bipush (v := 100) hx hb dX6_nights_6 (by decide) ?_
    refine lv_icmp_le (tgt := 14) hx hb dX6_nights_8 (by decide) (fun c8 => ?_) (fun c8 => ?_)
    · have hx1 : 1 ≤ x ∧ x ≤ 100 := by grind
      have hnn := nightN_nat hni h9 hx1.1 hx1.2
      refine lv_aload_n hx hb dX6_nights_14 rfl (lv_at hl 0 rfl) ?_
      refine s_get (v := .ref t) fb6 cf hw 13 rfl 1 rfl q307 rfl dX6_nights_15 ?_
      refine s_getN (v := .int (d 6)) fb4 cf hw 0 rfl 11 rfl q180 rfl dX6_nights_18 ?_
      refine lv_istore_n (lv' := [(2, .int (d 6)), (0, .ref o), (1, .int x)]) hx hb dX6_nights_21 rfl hl (by decide) rfl (fun ls hl => ?_)
      refine lv_aload_n hx hb dX6_nights_22 rfl (lv_at hl 1 rfl) ?_
      refine s_get (v := .ref t) fb6 cf hw 13 rfl 1 rfl q307 rfl dX6_nights_23 ?_
      refine lv_iload_n hx hb dX6_nights_26 rfl (lv_at hl 2 rfl) ?_
      refine lv_sipush (v := 9999) hx hb dX6_nights_27 (by decide) ?_
      refine lv_aload_n hx hb dX6_nights_30 rfl (lv_at hl 1 rfl) ?_
      refine s_get (v := .ref t) fb6 cf hw 13 rfl 1 rfl q307 rfl dX6_nights_31 ?_
      refine s_getN (v := .int (d 1)) fb4 cf hw 0 rfl 13 rfl q183 rfl dX6_nights_34 ?_
      refine lv_isub hx hb dX6_nights_37 ?_
      refine va_mmin hx hb (by rw [hml]; exact hl.1.symm) hown (hts _ q400) (hts _ ks_J9_min_7cf53) (hts _ km_J9_min_7cf53.1) (hts _ km_J9_min_7cf53.2.1) (Nat.le_of_ble_eq_true rfl) (Nat.le_of_ble_eq_true rfl) (Nat.le_of_ble_eq_true rfl) (Nat.le_of_ble_eq_true rfl) dX6_nights_38 ?_
      refine lv_topr (y := nI (nightN d x)) ((min_night hx1.1).trans hnn.1) ?_
      refine s_callv (runVN cf (x_pass (t := t) (lad := lad) (ad := ad) (d := d) (cn := cn) (nm := nm) (st_ := st_) (tr := tr) (txb := txb) (ft := ft) hF hFo hI hni (nightN d x) (by omega)) hw [0, 1, 2, 3, 4, 5, 6, 7, 8, 9, 10, 11, 12] (by decide) rfl km_X4_pass ki_X4_pass q499 (run_recv (ci := 4) (T := TX4) (N := 15) hw 0 rfl rfl) rfl rfl hl.1 rfl dX6_nights_41) hw [0, 1, 2, 3, 4, 5, 6, 7, 8, 9, 10, 11, 12] (by decide) rfl (fun _ => rfl) (fun u_1 H locs hp_2 hw => ?_)
      have hw : WD g A s H locs [bO t 4 (tF (lad 0) ad ((nightsF ft (nightN d x) d) 0) ((nightsF ft (nightN d x) d) 9) ((nightsF ft (nightN d x) d) 5) ((nightsF ft (nightN d x) d) 6) ((nightsF ft (nightN d x) d) 7) ((nightsF ft (nightN d x) d) 1) ((nightsF ft (nightN d x) d) 8)), bI g (ad 1) 10 (col (nightsF ft (nightN d x) d) 0), bI g (ad 2) 10 (col (nightsF ft (nightN d x) d) 1), bI g (ad 3) 10 (col (nightsF ft (nightN d x) d) 2), bI g (ad 4) 10 (col (nightsF ft (nightN d x) d) 3), bI g (ad 5) 10 (col (nightsF ft (nightN d x) d) 4), bI g (ad 6) 3 (rulF (nightsF ft (nightN d x) d)), bI g (ad 7) 3 cn, bO (lad 0) 0 ([.ref (lad 1), .ref (lad 2), .ref (lad 3)]), bR g 4 (lad 1) 14 tr, bI g (lad 2) 6 u_1.1, bI g (lad 3) 96 u_1.2, txb, bO o 6 (cF (lad 0) t t3 t2 ch kp tp wt)] := hw
      refine lv_aload_n hx hb dX6_nights_44 rfl (lv_at hl 1 rfl) ?_
      refine s_get (v := .ref t) fb6 cf hw 13 rfl 1 rfl q307 rfl dX6_nights_45 ?_
      refine s_getN (v := .int ((nightsF ft (nightN d x) d) 6)) fb4 cf hw 0 rfl 11 rfl q180 rfl dX6_nights_48 ?_
      refine lv_iload_n hx hb dX6_nights_51 rfl (lv_at hl 0 rfl) ?_
      refine lv_isub hx hb dX6_nights_52 ?_
      exact s_iret cf hr hlk (u_1.1, u_1.2) (by have q : D_nights ft d x = nightsF ft (nightN d x) d := (by unfold D_nights; rw [if_pos hx1]); rw [q]; exact hw) (by unfold R_nights; rw [if_pos hx1]) (Nat.le_of_ble_eq_true rfl) (Nat.le_of_ble_eq_true rfl) dX6_nights_53 hQ
    · refine lv_ldc hx hb hown (hts _ q356) dX6_nights_11 ?_
      exact s_iret cf hr hlk (nm, st_) (by have q : D_nights ft d x = d := (by unfold D_nights; rw [if_neg (by grind)]); rw [q]; exact hw) (by unfold R_nights; rw [if_neg (by grind)]) (Nat.le_of_ble_eq_true rfl) (Nat.le_of_ble_eq_true rfl) dX6_nights_13 hQ
