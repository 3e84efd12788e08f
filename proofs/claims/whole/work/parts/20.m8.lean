set_option maxRecDepth 100000 in
set_option maxHeartbeats 4000000 in
theorem m_areStill {l : Launch} {g : GG} {a : Nat} {ad : Nat → Nat} {fs : List Value} (hf : MF ad fs) {d cdf kf sf pl : DD} {ft : TXC} (hT : TxOK d kf sf cdf 0 ft) {n : Nat} (hn : d 0 = nI n) (hn10 : n ≤ 10) : Ct l g yX7_areStill cX7_areStill 2 (Option.some Jvm.ClassFile.FieldType.boolean) 4 0 0 [.ref a] [bO a 7 fs, bI g (ad 0) 60 d, bI g (ad 5) 1344 cdf, bI g (ad 6) 14 kf, bI g (ad 7) 14 sf, bI g (ad 9) 96 pl] (QI g (fun r (_ : DD) => r = if stillB ft d = true then 1 else 0) (fun u => [bO a 7 fs, bI g (ad 0) 60 d, bI g (ad 5) 1344 cdf, bI g (ad 6) 14 kf, bI g (ad 7) 14 sf, bI g (ad 9) 96 u])) := by
  refine Ct.of (by decide) rfl ?_
  intro p e s m args below meth c A H locs ls Qf cf hr hlk hnm hQ hw hl
  have hx := cf.1
  have hb := cf.2.1
  have hml := cf.2.2.1
  have hown := cf.2.2.2.1
  have hts := cf.2.2.2.2
  have hw : WD g A s H locs [bO a 7 fs, bI g (ad 0) 60 d, bI g (ad 5) 1344 cdf, bI g (ad 6) 14 kf, bI g (ad 7) 14 sf, bI g (ad 9) 96 pl] := hw
  have hl : lv_has ls 2 [(0, .ref a)] := hl
  refine lv_iconst (v := 0) hx hb dX7_areStill_0 (by decide) ?_
  refine lv_istore_n (lv' := [(1, .int 0), (0, .ref a)]) hx hb dX7_areStill_1 rfl hl (by decide) rfl (fun ls hl => ?_)
  have L2 : ∀ (fu : Nat) (i : Nat) (pl : DD), (i ≤ n) → (n < i + fu) → (∀ h, h < i → ¬ d 2 ≤ slackF ft d h) → ∀ (H : Heap) (locs : List Loc) (ls : Array Slot), WD g A s H locs [bO a 7 fs, bI g (ad 0) 60 d, bI g (ad 5) 1344 cdf, bI g (ad 6) 14 kf, bI g (ad 7) 14 sf, bI g (ad 9) 96 pl] → lv_has ls 2 [(0, .ref a), (1, .int (nI i))] → W p l e (rmx 4 0 0) s m args below meth c H locs 0 0 Qf (F0 m 2 ls []) := by
    intro fu
    induction fu with
    | zero => intro i pl hi hfu hq; exfalso; omega
    | succ fu ih2 =>
      intro i pl hi hfu hq H locs ls hw hl
      refine lv_iload_n hx hb dX7_areStill_2 rfl (lv_at hl 1 rfl) ?_
      refine lv_aload_n hx hb dX7_areStill_3 rfl (lv_at hl 0 rfl) ?_
      refine s_get (v := .ref (ad 0)) fb7 cf hw 0 rfl 0 rfl q921 (hf.2 0 rfl) dX7_areStill_4 ?_
      refine lv_iconst (v := 0) hx hb dX7_areStill_7 (by decide) ?_
      refine s_iald (j := 0) cf hw 1 rfl (rfl) (by decide) rfl dX7_areStill_8 ?_
      refine lv_icmp_ge (tgt := 34) hx hb dX7_areStill_9 (by decide) (fun c9 => ?_) (fun c9 => ?_)
      · have hi2 : n ≤ i := by rw [hn] at c9; exact nI_le_of (by omega) c9 (by omega)
        refine lv_iconst (v := 1) hx hb dX7_areStill_34 (by decide) ?_
        exact s_zret cf hr hlk pl hw (by rw [if_pos (stillB_t (nH_of hn hn10) (fun h z => hq h (by omega)))]) rfl (Nat.le_of_ble_eq_true rfl) (Nat.le_of_ble_eq_true rfl) dX7_areStill_35 hQ
      · have hlt : i < n := by rw [hn] at c9; exact nI_lt_of (by omega) c9 (by omega)
        refine lv_aload_n hx hb dX7_areStill_12 rfl (lv_at hl 0 rfl) ?_
        refine lv_iload_n hx hb dX7_areStill_13 rfl (lv_at hl 1 rfl) ?_
        refine s_calli (runV cf (m_slack (d := d) (cdf := cdf) (kf := kf) (sf := sf) (pl := pl) (ft := ft) hf hT i (by omega)) hw [0, 1, 2, 3, 4, 5] (by decide) rfl km_X7_slack ki_X7_slack q1064 (run_recv (ci := 7) (T := TX7) (N := 39) hw 0 rfl rfl) rfl rfl hl.1 rfl dX7_areStill_14) hw [0, 1, 2, 3, 4, 5] (by decide) rfl (fun _ => rfl) (fun r_3 u_1 H locs hp_2 hw => ?_)
        have hw : WD g A s H locs [bO a 7 fs, bI g (ad 0) 60 d, bI g (ad 5) 1344 cdf, bI g (ad 6) 14 kf, bI g (ad 7) 14 sf, bI g (ad 9) 96 u_1] := hw
        subst hp_2
        refine lv_aload_n hx hb dX7_areStill_17 rfl (lv_at hl 0 rfl) ?_
        refine s_get (v := .ref (ad 0)) fb7 cf hw 0 rfl 0 rfl q921 (hf.2 0 rfl) dX7_areStill_18 ?_
        refine lv_iconst (v := 2) hx hb dX7_areStill_21 (by decide) ?_
        refine s_iald (j := 2) cf hw 1 rfl (rfl) (by decide) rfl dX7_areStill_22 ?_
        refine lv_icmp_lt (tgt := 28) hx hb dX7_areStill_23 (by decide) (fun c23 => ?_) (fun c23 => ?_)
        · refine lv_iinc (v := nI (i + 1)) (lv' := [(1, .int (nI (i + 1))), (0, .ref a)]) hx hb dX7_areStill_28 hl (k := 1) rfl (nI_1 i) (by decide) rfl (fun ls hl => ?_)
          refine lv_goto (tgt := 2) hx hb dX7_areStill_31 (by decide) ?_
          exact ih2 (i + 1) u_1 (by omega) (by omega) (lt_s hq (by grind)) _ _ _ hw (lv_sub hl [1, 0] rfl)
        · refine lv_iconst (v := 0) hx hb dX7_areStill_26 (by decide) ?_
          exact s_zret cf hr hlk u_1 hw (by rw [if_neg (stillB_f (nH_of hn hn10) hlt (by grind))]) rfl (Nat.le_of_ble_eq_true rfl) (Nat.le_of_ble_eq_true rfl) dX7_areStill_27 hQ
  exact L2 (n + 1) 0 pl (by omega) (by omega) (fun h z => absurd z (by omega)) _ _ _ hw (lv_sub hl [1, 0] rfl)
set_option maxRecDepth 100000 in
set_option maxHeartbeats 4000000 in
theorem m_cement {l : Launch} {g : GG} {a : Nat} {ad : Nat → Nat} {fs : List Value} (hf : MF ad fs) {d as_ cdf kf sf pl : DD} {ft : TXC} (hT : TxOK d kf sf cdf 0 ft) {n : Nat} (hn : d 0 = nI n) (hn10 : n ≤ 10) {ni : Nat} (hni : d 1 = nI ni) (hni9 : ni ≤ 9999) (x : Int32) : Ct l g yX7_cement cX7_cement 5 (Option.some Jvm.ClassFile.FieldType.int) 7 0 0 [.ref a, .int x] [bO a 7 fs, bI g (ad 0) 60 d, bI g (ad 2) 60 as_, bI g (ad 5) 1344 cdf, bI g (ad 6) 14 kf, bI g (ad 7) 14 sf, bI g (ad 9) 96 pl] (QI g (fun r (_ : DD × DD) => r = R_cement ft d x) (fun u => [bO a 7 fs, bI g (ad 0) 60 d, bI g (ad 2) 60 u.1, bI g (ad 5) 1344 cdf, bI g (ad 6) 14 kf, bI g (ad 7) 14 sf, bI g (ad 9) 96 u.2])) := by
  refine Ct.of (by decide) rfl ?_
  intro p e s m args below meth c A H locs ls Qf cf hr hlk hnm hQ hw hl
  have hx := cf.1
  have hb := cf.2.1
  have hml := cf.2.2.1
  have hown := cf.2.2.2.1
  have hts := cf.2.2.2.2
  have hw : WD g A s H locs [bO a 7 fs, bI g (ad 0) 60 d, bI g (ad 2) 60 as_, bI g (ad 5) 1344 cdf, bI g (ad 6) 14 kf, bI g (ad 7) 14 sf, bI g (ad 9) 96 pl] := hw
  have hl : lv_has ls 5 [(0, .ref a), (1, .int x)] := hl
  refine lv_iload_n hx hb dX7_cement_0 rfl (lv_at hl 1 rfl) ?_
  refine lv_i2l (v := (x : Int32).toInt64) hx hb dX7_cement_1 rfl ?_
  refine lv_lconst (v := (0 : Int32).toInt64) hx hb dX7_cement_2 (by decide) ?_
  refine lv_ldc2 hx hb hown (hts _ q1219) dX7_cement_3 ?_
  refine lv_toplr (y := (20 : Int32).toInt64) (by decide) ?_
  refine s_calli (runS cf (m_in (x : Int32) (0 : Int32) (20 : Int32)) hw [] (by decide) rfl km_X7_in ks_X7_in q1045 rfl rfl hl.1 rfl dX7_cement_6) hw [] (by decide) rfl (fun _ => rfl) (fun r_3 u_1 H locs hp_2 hw => ?_)
  have hw : WD g A s H locs [bO a 7 fs, bI g (ad 0) 60 d, bI g (ad 2) 60 as_, bI g (ad 5) 1344 cdf, bI g (ad 6) 14 kf, bI g (ad 7) 14 sf, bI g (ad 9) 96 pl] := hw
  subst hp_2
  refine lv_if_ne (tgt := 15) hx hb dX7_cement_9 (by decide) (fun c9 => ?_) (fun c9 => ?_)
  · have c9 := b01_n c9
    obtain ⟨k, hk, hkx⟩ := rng_nat (m := 20) (by omega) (c9.1) c9.2
    subst hkx
    have hpw := pow_le10 hn10
    refine lv_aload_n hx hb dX7_cement_15 rfl (lv_at hl 0 rfl) ?_
    refine s_get (v := .ref (ad 0)) fb7 cf hw 0 rfl 0 rfl q921 (hf.2 0 rfl) dX7_cement_16 ?_
    refine lv_aload_n hx hb dX7_cement_19 rfl (lv_at hl 0 rfl) ?_
    refine s_get (v := .ref (ad 2)) fb7 cf hw 0 rfl 2 rfl q923 (hf.2 2 rfl) dX7_cement_20 ?_
    refine s_callv (runS cf (m_copies (x := ad 0) (y := ad 2) (f := d) (t := as_)) hw [1, 2] (by decide) rfl km_X7_copies ks_X7_copies q1203 rfl rfl hl.1 rfl dX7_cement_23) hw [1, 2] (by decide) rfl (fun _ => rfl) (fun u_4 H locs hp_5 hw => ?_)
    have hw : WD g A s H locs [bO a 7 fs, bI g (ad 0) 60 d, bI g (ad 2) 60 d, bI g (ad 5) 1344 cdf, bI g (ad 6) 14 kf, bI g (ad 7) 14 sf, bI g (ad 9) 96 pl] := hw
    refine lv_iconst (v := (-1)) hx hb dX7_cement_26 (by decide) ?_
    refine lv_istore_n (lv' := [(2, .int (-1)), (0, .ref a), (1, .int (nI k))]) hx hb dX7_cement_27 rfl hl (by decide) rfl (fun ls hl => ?_)
    refine lv_iconst (v := 0) hx hb dX7_cement_28 (by decide) ?_
    refine lv_istore_n (lv' := [(3, .int 0), (2, .int (-1)), (0, .ref a), (1, .int (nI k))]) hx hb dX7_cement_29 rfl hl (by decide) rfl (fun ls hl => ?_)
    have L30 : ∀ (fu : Nat) (i : Nat) (pl : DD), (i ≤ 2 ^ n) → (2 ^ n < i + fu) → ∀ (H : Heap) (locs : List Loc) (ls : Array Slot), WD g A s H locs [bO a 7 fs, bI g (ad 0) 60 d, bI g (ad 2) 60 d, bI g (ad 5) 1344 cdf, bI g (ad 6) 14 kf, bI g (ad 7) 14 sf, bI g (ad 9) 96 pl] → lv_has ls 5 [(0, .ref a), (1, .int (nI k)), (2, .int (cemB ft d k i)), (3, .int (nI i))] → W p l e (rmx 7 0 0) s m args below meth c H locs 0 0 Qf (F0 m 30 ls []) := by
      intro fu
      induction fu with
      | zero => intro i pl hi hfu; exfalso; omega
      | succ fu ih30 =>
        intro i pl hi hfu H locs ls hw hl
        refine lv_iload_n hx hb dX7_cement_30 rfl (lv_at hl 3 rfl) ?_
        refine lv_iconst (v := 1) hx hb dX7_cement_31 (by decide) ?_
        refine lv_aload_n hx hb dX7_cement_32 rfl (lv_at hl 0 rfl) ?_
        refine s_get (v := .ref (ad 0)) fb7 cf hw 0 rfl 0 rfl q921 (hf.2 0 rfl) dX7_cement_33 ?_
        refine lv_iconst (v := 0) hx hb dX7_cement_36 (by decide) ?_
        refine s_iald (j := 0) cf hw 1 rfl (rfl) (by decide) rfl dX7_cement_37 ?_
        refine lv_ishl hx hb dX7_cement_38 ?_
        refine lv_topr (y := nI (2 ^ n)) (by rw [hn]; exact shl_pow n hn10) ?_
        refine lv_icmp_ge (tgt := 146) hx hb dX7_cement_39 (by decide) (fun c39 => ?_) (fun c39 => ?_)
        · have hi2 : i = 2 ^ n := by have := nI_le_of (by omega) c39 (by omega); omega
          refine lv_iload_n hx hb dX7_cement_146 rfl (lv_at hl 2 rfl) ?_
          refine lv_if_ge (tgt := 155) hx hb dX7_cement_147 (by decide) (fun c147 => ?_) (fun c147 => ?_)
          · refine lv_iload_n hx hb dX7_cement_155 rfl (lv_at hl 2 rfl) ?_
            exact s_iret cf hr hlk (d, pl) hw (by unfold R_cement; rw [if_pos c9, nI_clamp (by omega), nH_of hn hn10, ← hi2, if_neg (Int32.not_lt.mpr c147)]) (Nat.le_of_ble_eq_true rfl) (Nat.le_of_ble_eq_true rfl) dX7_cement_156 hQ
          · refine lv_ldc hx hb hown (hts _ q1198) dX7_cement_150 ?_
            refine lv_goto (tgt := 156) hx hb dX7_cement_152 (by decide) ?_
            exact s_iret cf hr hlk (d, pl) hw (by unfold R_cement; rw [if_pos c9, nI_clamp (by omega), nH_of hn hn10, ← hi2, if_pos (Int32.not_le.mp c147)]) (Nat.le_of_ble_eq_true rfl) (Nat.le_of_ble_eq_true rfl) dX7_cement_156 hQ
        · have hlt : i < 2 ^ n := nI_lt_of (by omega) c39 (by omega)
          have L57 : (cemB ft d k i < 0 ∨ onesF (nI i) < onesF (cemB ft d k i)) → ∀ (H : Heap) (locs : List Loc) (ls : Array Slot), WD g A s H locs [bO a 7 fs, bI g (ad 0) 60 d, bI g (ad 2) 60 d, bI g (ad 5) 1344 cdf, bI g (ad 6) 14 kf, bI g (ad 7) 14 sf, bI g (ad 9) 96 pl] → lv_has ls 5 [(0, .ref a), (1, .int (nI k)), (2, .int (cemB ft d k i)), (3, .int (nI i))] → W p l e (rmx 7 0 0) s m args below meth c H locs 0 0 Qf (F0 m 57 ls []) := by
            intro  hbet H locs ls hw hl
            refine lv_iconst (v := 0) hx hb dX7_cement_57 (by decide) ?_
            refine lv_istore (lv' := [(4, .int 0), (0, .ref a), (1, .int (nI k)), (2, .int (cemB ft d k i)), (3, .int (nI i))]) hx hb dX7_cement_58 hl (by decide) rfl (fun ls hl => ?_)
            have L60 : ∀ (fu : Nat) (h : Nat), (h ≤ n) → (n < h + fu) → ∀ (H : Heap) (locs : List Loc) (ls : Array Slot), WD g A s H locs [bO a 7 fs, bI g (ad 0) 60 (itn (fitOne (nI i)) h d), bI g (ad 2) 60 d, bI g (ad 5) 1344 cdf, bI g (ad 6) 14 kf, bI g (ad 7) 14 sf, bI g (ad 9) 96 pl] → lv_has ls 5 [(0, .ref a), (1, .int (nI k)), (2, .int (cemB ft d k i)), (3, .int (nI i)), (4, .int (nI h))] → W p l e (rmx 7 0 0) s m args below meth c H locs 0 0 Qf (F0 m 60 ls []) := by
              intro fu
              induction fu with
              | zero => intro h hh hfh; exfalso; omega
              | succ fu ih60 =>
                intro h hh hfh H locs ls hw hl
                refine lv_iload hx hb dX7_cement_60 (lv_at hl 4 rfl) ?_
                refine lv_aload_n hx hb dX7_cement_62 rfl (lv_at hl 0 rfl) ?_
                refine s_get (v := .ref (ad 0)) fb7 cf hw 0 rfl 0 rfl q921 (hf.2 0 rfl) dX7_cement_63 ?_
                refine lv_iconst (v := 0) hx hb dX7_cement_66 (by decide) ?_
                refine s_iald (j := 0) cf hw 1 rfl (rfl) (by decide) rfl dX7_cement_67 ?_
                refine lv_icmp_ge (tgt := 111) hx hb dX7_cement_68 (by decide) (fun c68 => ?_) (fun c68 => ?_)
                · have hh2 : h = n := by rw [fitSet_lo (by omega), hn] at c68; have := nI_le_of (by omega) c68 (by omega); omega
                  have hw : WD g A s H locs [bO a 7 fs, bI g (ad 0) 60 (fitSet (nI i) d), bI g (ad 2) 60 d, bI g (ad 5) 1344 cdf, bI g (ad 6) 14 kf, bI g (ad 7) 14 sf, bI g (ad 9) 96 pl] := by have q : fitSet (nI i) d = itn (fitOne (nI i)) h d := (by unfold fitSet; rw [nH_of hn hn10, hh2]); rw [q]; exact hw
                  have hf0 : fitSet (nI i) d 0 = nI n := by rw [fitSet, fitSet_lo (by omega)]; exact hn
                  have hf1 : fitSet (nI i) d 1 = nI ni := by rw [fitSet, fitSet_lo (by omega)]; exact hni
                  have hfT : TxOK (fitSet (nI i) d) kf sf cdf 0 ft := hT.of (by rw [fitSet, fitSet_lo (by omega)])
                  refine lv_aload_n hx hb dX7_cement_111 rfl (lv_at hl 0 rfl) ?_
                  refine lv_iload_n hx hb dX7_cement_112 rfl (lv_at hl 1 rfl) ?_
                  refine s_callv (runV cf (m_nightsGo (d := fitSet (nI i) d) (cdf := cdf) (kf := kf) (sf := sf) (pl := pl) (ft := ft) hf hfT (n := n) hf0 hn10 (ni := ni) hf1 k (by omega)) hw [0, 1, 3, 4, 5, 6] (by decide) rfl km_X7_nightsGo ki_X7_nightsGo q1174 (run_recv (ci := 7) (T := TX7) (N := 39) hw 0 rfl rfl) rfl rfl hl.1 rfl dX7_cement_113) hw [0, 1, 3, 4, 5, 6] (by decide) rfl (fun _ => rfl) (fun u_6 H locs hp_7 hw => ?_)
                  have hw : WD g A s H locs [bO a 7 fs, bI g (ad 0) 60 (nightsF ft k (fitSet (nI i) d)), bI g (ad 2) 60 d, bI g (ad 5) 1344 cdf, bI g (ad 6) 14 kf, bI g (ad 7) 14 sf, bI g (ad 9) 96 u_6] := hw
                  refine lv_aload_n hx hb dX7_cement_116 rfl (lv_at hl 0 rfl) ?_
                  refine s_calli (runV cf (m_areStill (d := nightsF ft k (fitSet (nI i) d)) (cdf := cdf) (kf := kf) (sf := sf) (pl := u_6) (ft := ft) hf (hfT.of (nightsF_lo (by omega) (by omega) (by omega) (by omega) (by omega) (by omega))) (n := n) (by rw [nightsF_lo (by omega) (by omega) (by omega) (by omega) (by omega) (by omega)]; exact hf0) hn10) hw [0, 1, 3, 4, 5, 6] (by decide) rfl km_X7_areStill ki_X7_areStill q1220 (run_recv (ci := 7) (T := TX7) (N := 39) hw 0 rfl rfl) rfl rfl hl.1 rfl dX7_cement_117) hw [0, 1, 3, 4, 5, 6] (by decide) rfl (fun _ => rfl) (fun r_10 u_8 H locs hp_9 hw => ?_)
                  have hw : WD g A s H locs [bO a 7 fs, bI g (ad 0) 60 (nightsF ft k (fitSet (nI i) d)), bI g (ad 2) 60 d, bI g (ad 5) 1344 cdf, bI g (ad 6) 14 kf, bI g (ad 7) 14 sf, bI g (ad 9) 96 u_8] := hw
                  subst hp_9
                  refine lv_if_eq (tgt := 127) hx hb dX7_cement_120 (by decide) (fun c120 => ?_) (fun c120 => ?_)
                  · have c120 := b01_z c120
                    refine lv_iload_n hx hb dX7_cement_127 rfl (lv_at hl 2 rfl) ?_
                    refine lv_topr (y := cemB ft d k (i + 1)) ((if_neg (fun z => c120 z.2)).symm) ?_
                    refine lv_istore_n (lv' := [(2, .int (cemB ft d k (i + 1))), (0, .ref a), (1, .int (nI k)), (3, .int (nI i)), (4, .int (nI h))]) hx hb dX7_cement_128 rfl hl (by decide) rfl (fun ls hl => ?_)
                    refine lv_aload_n hx hb dX7_cement_129 rfl (lv_at hl 1 rfl) ?_
                    refine s_get (v := .ref (ad 2)) fb7 cf hw 0 rfl 2 rfl q923 (hf.2 2 rfl) dX7_cement_130 ?_
                    refine lv_aload_n hx hb dX7_cement_133 rfl (lv_at hl 1 rfl) ?_
                    refine s_get (v := .ref (ad 0)) fb7 cf hw 0 rfl 0 rfl q921 (hf.2 0 rfl) dX7_cement_134 ?_
                    refine s_callv (runS cf (m_copies (x := ad 2) (y := ad 0) (f := d) (t := nightsF ft k (fitSet (nI i) d))) hw [2, 1] (by decide) rfl km_X7_copies ks_X7_copies q1203 rfl rfl hl.1 rfl dX7_cement_137) hw [2, 1] (by decide) rfl (fun _ => rfl) (fun u_11 H locs hp_12 hw => ?_)
                    have hw : WD g A s H locs [bO a 7 fs, bI g (ad 0) 60 d, bI g (ad 2) 60 d, bI g (ad 5) 1344 cdf, bI g (ad 6) 14 kf, bI g (ad 7) 14 sf, bI g (ad 9) 96 u_8] := hw
                    refine lv_iinc (v := nI (i + 1)) (lv' := [(3, .int (nI (i + 1))), (2, .int (cemB ft d k (i + 1))), (0, .ref a), (1, .int (nI k)), (4, .int (nI h))]) hx hb dX7_cement_140 hl (k := 3) rfl (nI_1 i) (by decide) rfl (fun ls hl => ?_)
                    refine lv_goto (tgt := 30) hx hb dX7_cement_143 (by decide) ?_
                    exact ih30 (i + 1) u_8 (by omega) (by omega) _ _ _ hw (lv_sub hl [2, 3, 1, 0] rfl)
                  · have c120 := b01_n c120
                    refine lv_iload_n hx hb dX7_cement_123 rfl (lv_at hl 3 rfl) ?_
                    refine lv_goto (tgt := 128) hx hb dX7_cement_124 (by decide) ?_
                    refine lv_topr (y := cemB ft d k (i + 1)) ((if_pos ⟨hbet, c120⟩).symm) ?_
                    refine lv_istore_n (lv' := [(2, .int (cemB ft d k (i + 1))), (0, .ref a), (1, .int (nI k)), (3, .int (nI i)), (4, .int (nI h))]) hx hb dX7_cement_128 rfl hl (by decide) rfl (fun ls hl => ?_)
                    refine lv_aload_n hx hb dX7_cement_129 rfl (lv_at hl 1 rfl) ?_
                    refine s_get (v := .ref (ad 2)) fb7 cf hw 0 rfl 2 rfl q923 (hf.2 2 rfl) dX7_cement_130 ?_
                    refine lv_aload_n hx hb dX7_cement_133 rfl (lv_at hl 1 rfl) ?_
                    refine s_get (v := .ref (ad 0)) fb7 cf hw 0 rfl 0 rfl q921 (hf.2 0 rfl) dX7_cement_134 ?_
                    refine s_callv (runS cf (m_copies (x := ad 2) (y := ad 0) (f := d) (t := nightsF ft k (fitSet (nI i) d))) hw [2, 1] (by decide) rfl km_X7_copies ks_X7_copies q1203 rfl rfl hl.1 rfl dX7_cement_137) hw [2, 1] (by decide) rfl (fun _ => rfl) (fun u_13 H locs hp_14 hw => ?_)
                    have hw : WD g A s H locs [bO a 7 fs, bI g (ad 0) 60 d, bI g (ad 2) 60 d, bI g (ad 5) 1344 cdf, bI g (ad 6) 14 kf, bI g (ad 7) 14 sf, bI g (ad 9) 96 u_8] := hw
                    refine lv_iinc (v := nI (i + 1)) (lv' := [(3, .int (nI (i + 1))), (2, .int (cemB ft d k (i + 1))), (0, .ref a), (1, .int (nI k)), (4, .int (nI h))]) hx hb dX7_cement_140 hl (k := 3) rfl (nI_1 i) (by decide) rfl (fun ls hl => ?_)
                    refine lv_goto (tgt := 30) hx hb dX7_cement_143 (by decide) ?_
                    exact ih30 (i + 1) u_8 (by omega) (by omega) _ _ _ hw (lv_sub hl [2, 3, 1, 0] rfl)
                · have hhl : h < n := by rw [fitSet_lo (by omega), hn] at c68; exact nI_lt_of (by omega) c68 (by omega)
                  refine lv_aload_n hx hb dX7_cement_71 rfl (lv_at hl 0 rfl) ?_
                  refine lv_iload hx hb dX7_cement_72 (lv_at hl 4 rfl) ?_
                  refine lv_iconst (v := 2) hx hb dX7_cement_74 (by decide) ?_
                  refine lv_iload_n hx hb dX7_cement_75 rfl (lv_at hl 3 rfl) ?_
                  refine lv_iload hx hb dX7_cement_76 (lv_at hl 4 rfl) ?_
                  refine lv_ishr hx hb dX7_cement_78 ?_
                  refine lv_iconst (v := 1) hx hb dX7_cement_79 (by decide) ?_
                  refine lv_iand hx hb dX7_cement_80 ?_
                  refine lv_iconst (v := 1) hx hb dX7_cement_81 (by decide) ?_
                  refine lv_icmp_ne (tgt := 95) hx hb dX7_cement_82 (by decide) (fun c82 => ?_) (fun c82 => ?_)
                  · refine lv_aload_n hx hb dX7_cement_95 rfl (lv_at hl 0 rfl) ?_
                    refine lv_iload hx hb dX7_cement_96 (lv_at hl 4 rfl) ?_
                    refine lv_iconst (v := 2) hx hb dX7_cement_98 (by decide) ?_
                    refine s_calli (runV cf (m_of (d := itn (fitOne (nI i)) h d) hf h 2 (by omega)) hw [0, 1] (by decide) rfl km_X7_of ki_X7_of q1076 (run_recv (ci := 7) (T := TX7) (N := 39) hw 0 rfl rfl) rfl rfl hl.1 rfl dX7_cement_99) hw [0, 1] (by decide) rfl (fun _ => rfl) (fun r_17 u_15 H locs hp_16 hw => ?_)
                    have hw : WD g A s H locs [bO a 7 fs, bI g (ad 0) 60 (itn (fitOne (nI i)) h d), bI g (ad 2) 60 d, bI g (ad 5) 1344 cdf, bI g (ad 6) 14 kf, bI g (ad 7) 14 sf, bI g (ad 9) 96 pl] := hw
                    subst hp_16
                    refine lv_topr (y := if (nI i >>> (nI h &&& 31) &&& 1) = 1 then (itn (fitOne (nI i)) h d) (10 + 5 * h + 1) else (itn (fitOne (nI i)) h d) (10 + 5 * h + 2)) (by grind) ?_
                    refine s_callv (runV cf (m_sets (d := itn (fitOne (nI i)) h d) hf h 2 (if (nI i >>> (nI h &&& 31) &&& 1) = 1 then (itn (fitOne (nI i)) h d) (10 + 5 * h + 1) else (itn (fitOne (nI i)) h d) (10 + 5 * h + 2)) (by omega)) hw [0, 1] (by decide) rfl km_X7_sets ki_X7_sets q1051 (run_recv (ci := 7) (T := TX7) (N := 39) hw 0 rfl rfl) rfl rfl hl.1 rfl dX7_cement_102) hw [0, 1] (by decide) rfl (fun _ => rfl) (fun u_18 H locs hp_19 hw => ?_)
                    have hw : WD g A s H locs [bO a 7 fs, bI g (ad 0) 60 (upd (itn (fitOne (nI i)) h d) (10 + 5 * h + 2) (if (nI i >>> (nI h &&& 31) &&& 1) = 1 then (itn (fitOne (nI i)) h d) (10 + 5 * h + 1) else (itn (fitOne (nI i)) h d) (10 + 5 * h + 2))), bI g (ad 2) 60 d, bI g (ad 5) 1344 cdf, bI g (ad 6) 14 kf, bI g (ad 7) 14 sf, bI g (ad 9) 96 pl] := hw
                    refine lv_iinc (v := nI (h + 1)) (lv' := [(4, .int (nI (h + 1))), (0, .ref a), (1, .int (nI k)), (2, .int (cemB ft d k i)), (3, .int (nI i))]) hx hb dX7_cement_105 hl (k := 4) rfl (nI_1 h) (by decide) rfl (fun ls hl => ?_)
                    refine lv_goto (tgt := 60) hx hb dX7_cement_108 (by decide) ?_
                    exact ih60 (h + 1) (by omega) (by omega) _ _ _ hw (lv_sub hl [1, 2, 3, 4, 0] rfl)
                  · refine lv_aload_n hx hb dX7_cement_85 rfl (lv_at hl 0 rfl) ?_
                    refine lv_iload hx hb dX7_cement_86 (lv_at hl 4 rfl) ?_
                    refine lv_iconst (v := 1) hx hb dX7_cement_88 (by decide) ?_
                    refine s_calli (runV cf (m_of (d := itn (fitOne (nI i)) h d) hf h 1 (by omega)) hw [0, 1] (by decide) rfl km_X7_of ki_X7_of q1076 (run_recv (ci := 7) (T := TX7) (N := 39) hw 0 rfl rfl) rfl rfl hl.1 rfl dX7_cement_89) hw [0, 1] (by decide) rfl (fun _ => rfl) (fun r_22 u_20 H locs hp_21 hw => ?_)
                    have hw : WD g A s H locs [bO a 7 fs, bI g (ad 0) 60 (itn (fitOne (nI i)) h d), bI g (ad 2) 60 d, bI g (ad 5) 1344 cdf, bI g (ad 6) 14 kf, bI g (ad 7) 14 sf, bI g (ad 9) 96 pl] := hw
                    subst hp_21
                    refine lv_goto (tgt := 102) hx hb dX7_cement_92 (by decide) ?_
                    refine lv_topr (y := if (nI i >>> (nI h &&& 31) &&& 1) = 1 then (itn (fitOne (nI i)) h d) (10 + 5 * h + 1) else (itn (fitOne (nI i)) h d) (10 + 5 * h + 2)) (by grind) ?_
                    refine s_callv (runV cf (m_sets (d := itn (fitOne (nI i)) h d) hf h 2 (if (nI i >>> (nI h &&& 31) &&& 1) = 1 then (itn (fitOne (nI i)) h d) (10 + 5 * h + 1) else (itn (fitOne (nI i)) h d) (10 + 5 * h + 2)) (by omega)) hw [0, 1] (by decide) rfl km_X7_sets ki_X7_sets q1051 (run_recv (ci := 7) (T := TX7) (N := 39) hw 0 rfl rfl) rfl rfl hl.1 rfl dX7_cement_102) hw [0, 1] (by decide) rfl (fun _ => rfl) (fun u_23 H locs hp_24 hw => ?_)
                    have hw : WD g A s H locs [bO a 7 fs, bI g (ad 0) 60 (upd (itn (fitOne (nI i)) h d) (10 + 5 * h + 2) (if (nI i >>> (nI h &&& 31) &&& 1) = 1 then (itn (fitOne (nI i)) h d) (10 + 5 * h + 1) else (itn (fitOne (nI i)) h d) (10 + 5 * h + 2))), bI g (ad 2) 60 d, bI g (ad 5) 1344 cdf, bI g (ad 6) 14 kf, bI g (ad 7) 14 sf, bI g (ad 9) 96 pl] := hw
                    refine lv_iinc (v := nI (h + 1)) (lv' := [(4, .int (nI (h + 1))), (0, .ref a), (1, .int (nI k)), (2, .int (cemB ft d k i)), (3, .int (nI i))]) hx hb dX7_cement_105 hl (k := 4) rfl (nI_1 h) (by decide) rfl (fun ls hl => ?_)
                    refine lv_goto (tgt := 60) hx hb dX7_cement_108 (by decide) ?_
                    exact ih60 (h + 1) (by omega) (by omega) _ _ _ hw (lv_sub hl [1, 2, 3, 4, 0] rfl)
            exact L60 (n + 1) 0 (by omega) (by omega) _ _ _ hw (lv_sub hl [1, 2, 3, 4, 0] rfl)
          refine lv_iload_n hx hb dX7_cement_42 rfl (lv_at hl 2 rfl) ?_
          refine lv_if_lt (tgt := 57) hx hb dX7_cement_43 (by decide) (fun c43 => ?_) (fun c43 => ?_)
          · exact L57 (Or.inl c43) _ _ _ hw (lv_sub hl [0, 1, 2, 3] rfl)
          · refine lv_iload_n hx hb dX7_cement_46 rfl (lv_at hl 3 rfl) ?_
            refine s_calli (runS cf (m_ones (nI i)) hw [] (by decide) rfl km_X7_ones ks_X7_ones q1093 rfl rfl hl.1 rfl dX7_cement_47) hw [] (by decide) rfl (fun _ => rfl) (fun r_27 u_25 H locs hp_26 hw => ?_)
            have hw : WD g A s H locs [bO a 7 fs, bI g (ad 0) 60 d, bI g (ad 2) 60 d, bI g (ad 5) 1344 cdf, bI g (ad 6) 14 kf, bI g (ad 7) 14 sf, bI g (ad 9) 96 pl] := hw
            subst hp_26
            refine lv_iload_n hx hb dX7_cement_50 rfl (lv_at hl 2 rfl) ?_
            refine s_calli (runS cf (m_ones (cemB ft d k i)) hw [] (by decide) rfl km_X7_ones ks_X7_ones q1093 rfl rfl hl.1 rfl dX7_cement_51) hw [] (by decide) rfl (fun _ => rfl) (fun r_30 u_28 H locs hp_29 hw => ?_)
            have hw : WD g A s H locs [bO a 7 fs, bI g (ad 0) 60 d, bI g (ad 2) 60 d, bI g (ad 5) 1344 cdf, bI g (ad 6) 14 kf, bI g (ad 7) 14 sf, bI g (ad 9) 96 pl] := hw
            subst hp_29
            refine lv_icmp_ge (tgt := 140) hx hb dX7_cement_54 (by decide) (fun c54 => ?_) (fun c54 => ?_)
            · have hl : lv_has ls 5 [(0, .ref a), (1, .int (nI k)), (2, .int (cemB ft d k (i + 1))), (3, .int (nI i))] := by rw [show cemB ft d k (i + 1) = cemB ft d k i from if_neg (fun z => z.1.elim (fun q => c43 q) (fun q => absurd c54 (Int32.not_le.mpr q)))]; exact hl
              refine lv_iinc (v := nI (i + 1)) (lv' := [(3, .int (nI (i + 1))), (0, .ref a), (1, .int (nI k)), (2, .int (cemB ft d k (i + 1)))]) hx hb dX7_cement_140 hl (k := 3) rfl (nI_1 i) (by decide) rfl (fun ls hl => ?_)
              refine lv_goto (tgt := 30) hx hb dX7_cement_143 (by decide) ?_
              exact ih30 (i + 1) pl (by omega) (by omega) _ _ _ hw (lv_sub hl [1, 2, 3, 0] rfl)
            · exact L57 (Or.inr (Int32.not_le.mp c54)) _ _ _ hw (lv_sub hl [0, 1, 2, 3] rfl)
    exact L30 (2 ^ n + 1) 0 pl (Nat.zero_le _) (by omega) _ _ _ hw (lv_sub hl [2, 3, 1, 0] rfl)
  · have c9 := b01_z c9
    refine lv_ldc hx hb hown (hts _ q1049) dX7_cement_12 ?_
    exact s_iret cf hr hlk (as_, pl) hw (by unfold R_cement; rw [if_neg c9]) (Nat.le_of_ble_eq_true rfl) (Nat.le_of_ble_eq_true rfl) dX7_cement_14 hQ
set_option maxRecDepth 100000 in
set_option maxHeartbeats 4000000 in
theorem m_cast {l : Launch} {g : GG} {a : Nat} {ad : Nat → Nat} {fs : List Value} (hf : MF ad fs) {d as_ cdf kf sf pl : DD} {ft : TXC} (hT : TxOK d kf sf cdf 0 ft) {n : Nat} (hn : d 0 = nI n) (hn10 : n ≤ 10) {ni : Nat} (hni : d 1 = nI ni) (hni9 : ni ≤ 9999) (x y w : Int32) : Ct l g yX7_cast cX7_cast 7 (Option.some Jvm.ClassFile.FieldType.int) 7 0 0 [.ref a, .int x, .int y, .int w] [bO a 7 fs, bI g (ad 0) 60 d, bI g (ad 2) 60 as_, bI g (ad 5) 1344 cdf, bI g (ad 6) 14 kf, bI g (ad 7) 14 sf, bI g (ad 9) 96 pl] (QI g (fun r (_ : DD × DD) => r = R_cast ft d x y w) (fun u => [bO a 7 fs, bI g (ad 0) 60 d, bI g (ad 2) 60 u.1, bI g (ad 5) 1344 cdf, bI g (ad 6) 14 kf, bI g (ad 7) 14 sf, bI g (ad 9) 96 u.2])) := by
  refine Ct.of (by decide) rfl ?_
  intro p e s m args below meth c A H locs ls Qf cf hr hlk hnm hQ hw hl
  have hx := cf.1
  have hb := cf.2.1
  have hml := cf.2.2.1
  have hown := cf.2.2.2.1
  have hts := cf.2.2.2.2
  have hw : WD g A s H locs [bO a 7 fs, bI g (ad 0) 60 d, bI g (ad 2) 60 as_, bI g (ad 5) 1344 cdf, bI g (ad 6) 14 kf, bI g (ad 7) 14 sf, bI g (ad 9) 96 pl] := hw
  have hl : lv_has ls 7 [(0, .ref a), (1, .int x), (2, .int y), (3, .int w)] := hl
  refine lv_aload_n hx hb dX7_cast_0 rfl (lv_at hl 0 rfl) ?_
  refine lv_iload_n hx hb dX7_cast_1 rfl (lv_at hl 1 rfl) ?_
  refine s_calli (runV cf (m_isHouse (d := d) hf x) hw [0, 1] (by decide) rfl km_X7_isHouse ki_X7_isHouse q1059 (run_recv (ci := 7) (T := TX7) (N := 39) hw 0 rfl rfl) rfl rfl hl.1 rfl dX7_cast_2) hw [0, 1] (by decide) rfl (fun _ => rfl) (fun r_3 u_1 H locs hp_2 hw => ?_)
  have hw : WD g A s H locs [bO a 7 fs, bI g (ad 0) 60 d, bI g (ad 2) 60 as_, bI g (ad 5) 1344 cdf, bI g (ad 6) 14 kf, bI g (ad 7) 14 sf, bI g (ad 9) 96 pl] := hw
  subst hp_2
  refine lv_if_eq (tgt := 30) hx hb dX7_cast_5 (by decide) (fun c5 => ?_) (fun c5 => ?_)
  · have c5 := b01_z c5
    refine lv_ldc hx hb hown (hts _ q1049) dX7_cast_30 ?_
    exact s_iret cf hr hlk (as_, pl) hw (by unfold R_cast; rw [if_neg (by grind)]) (Nat.le_of_ble_eq_true rfl) (Nat.le_of_ble_eq_true rfl) dX7_cast_32 hQ
  · have c5 := b01_n c5
    refine lv_iload_n hx hb dX7_cast_8 rfl (lv_at hl 2 rfl) ?_
    refine lv_i2l (v := (y : Int32).toInt64) hx hb dX7_cast_9 rfl ?_
    refine lv_lconst (v := (1 : Int32).toInt64) hx hb dX7_cast_10 (by decide) ?_
    refine lv_ldc2 hx hb hown (hts _ q1228) dX7_cast_11 ?_
    refine lv_toplr (y := (60 : Int32).toInt64) (by decide) ?_
    refine s_calli (runS cf (m_in (y : Int32) (1 : Int32) (60 : Int32)) hw [] (by decide) rfl km_X7_in ks_X7_in q1045 rfl rfl hl.1 rfl dX7_cast_14) hw [] (by decide) rfl (fun _ => rfl) (fun r_6 u_4 H locs hp_5 hw => ?_)
    have hw : WD g A s H locs [bO a 7 fs, bI g (ad 0) 60 d, bI g (ad 2) 60 as_, bI g (ad 5) 1344 cdf, bI g (ad 6) 14 kf, bI g (ad 7) 14 sf, bI g (ad 9) 96 pl] := hw
    subst hp_5
    refine lv_if_eq (tgt := 30) hx hb dX7_cast_17 (by decide) (fun c17 => ?_) (fun c17 => ?_)
    · have c17 := b01_z c17
      refine lv_ldc hx hb hown (hts _ q1049) dX7_cast_30 ?_
      exact s_iret cf hr hlk (as_, pl) hw (by unfold R_cast; rw [if_neg (by grind)]) (Nat.le_of_ble_eq_true rfl) (Nat.le_of_ble_eq_true rfl) dX7_cast_32 hQ
    · have c17 := b01_n c17
      refine lv_iload_n hx hb dX7_cast_20 rfl (lv_at hl 3 rfl) ?_
      refine lv_i2l (v := (w : Int32).toInt64) hx hb dX7_cast_21 rfl ?_
      refine lv_lconst (v := (0 : Int32).toInt64) hx hb dX7_cast_22 (by decide) ?_
      refine lv_lconst (v := (1 : Int32).toInt64) hx hb dX7_cast_23 (by decide) ?_
      refine s_calli (runS cf (m_in (w : Int32) (0 : Int32) (1 : Int32)) hw [] (by decide) rfl km_X7_in ks_X7_in q1045 rfl rfl hl.1 rfl dX7_cast_24) hw [] (by decide) rfl (fun _ => rfl) (fun r_9 u_7 H locs hp_8 hw => ?_)
      have hw : WD g A s H locs [bO a 7 fs, bI g (ad 0) 60 d, bI g (ad 2) 60 as_, bI g (ad 5) 1344 cdf, bI g (ad 6) 14 kf, bI g (ad 7) 14 sf, bI g (ad 9) 96 pl] := hw
      subst hp_8
      refine lv_if_ne (tgt := 33) hx hb dX7_cast_27 (by decide) (fun c27 => ?_) (fun c27 => ?_)
      · have c27 := b01_n c27
        have hok : okCB d x y w := ⟨c5, c17, c27⟩
        obtain ⟨j, hjn, hxj, hcl⟩ := isH_nat hn hn10 c5
        subst hxj
        obtain ⟨k, hk, hkx⟩ := rng_nat (m := 60) (by omega) (by grind) c17.2
        subst hkx
        refine lv_aload_n hx hb dX7_cast_33 rfl (lv_at hl 0 rfl) ?_
        refine s_get (v := .ref (ad 0)) fb7 cf hw 0 rfl 0 rfl q921 (hf.2 0 rfl) dX7_cast_34 ?_
        refine lv_aload_n hx hb dX7_cast_37 rfl (lv_at hl 0 rfl) ?_
        refine s_get (v := .ref (ad 2)) fb7 cf hw 0 rfl 2 rfl q923 (hf.2 2 rfl) dX7_cast_38 ?_
        refine s_callv (runS cf (m_copies (x := ad 0) (y := ad 2) (f := d) (t := as_)) hw [1, 2] (by decide) rfl km_X7_copies ks_X7_copies q1203 rfl rfl hl.1 rfl dX7_cast_41) hw [1, 2] (by decide) rfl (fun _ => rfl) (fun u_10 H locs hp_11 hw => ?_)
        have hw : WD g A s H locs [bO a 7 fs, bI g (ad 0) 60 d, bI g (ad 2) 60 d, bI g (ad 5) 1344 cdf, bI g (ad 6) 14 kf, bI g (ad 7) 14 sf, bI g (ad 9) 96 pl] := hw
        refine lv_iconst (v := 0) hx hb dX7_cast_44 (by decide) ?_
        refine lv_istore (lv' := [(4, .int 0), (0, .ref a), (1, .int (nI j)), (2, .int (nI k)), (3, .int w)]) hx hb dX7_cast_45 hl (by decide) rfl (fun ls hl => ?_)
        refine lv_iconst (v := (-1)) hx hb dX7_cast_47 (by decide) ?_
        refine lv_istore (lv' := [(5, .int (-1)), (4, .int 0), (0, .ref a), (1, .int (nI j)), (2, .int (nI k)), (3, .int w)]) hx hb dX7_cast_48 hl (by decide) rfl (fun ls hl => ?_)
        refine lv_iconst (v := 0) hx hb dX7_cast_50 (by decide) ?_
        refine lv_istore (lv' := [(6, .int 0), (5, .int (-1)), (4, .int 0), (0, .ref a), (1, .int (nI j)), (2, .int (nI k)), (3, .int w)]) hx hb dX7_cast_51 hl (by decide) rfl (fun ls hl => ?_)
        have L53 : ∀ (fu : Nat) (i : Nat) (pl : DD), (i ≤ 100) → (100 < i + fu) → ∀ (H : Heap) (locs : List Loc) (ls : Array Slot), WD g A s H locs [bO a 7 fs, bI g (ad 0) 60 d, bI g (ad 2) 60 d, bI g (ad 5) 1344 cdf, bI g (ad 6) 14 kf, bI g (ad 7) 14 sf, bI g (ad 9) 96 pl] → lv_has ls 7 [(0, .ref a), (1, .int (nI j)), (2, .int (nI k)), (3, .int w), (4, .int ((castB ft d j k i).1)), (5, .int ((castB ft d j k i).2)), (6, .int (nI i))] → W p l e (rmx 7 0 0) s m args below meth c H locs 0 0 Qf (F0 m 53 ls []) := by
          intro fu
          induction fu with
          | zero => intro i pl hi hfu; exfalso; omega
          | succ fu ih53 =>
            intro i pl hi hfu H locs ls hw hl
            refine lv_iload hx hb dX7_cast_53 (lv_at hl 6 rfl) ?_
            refine lv_bipush (v := 99) hx hb dX7_cast_55 (by decide) ?_
            refine lv_icmp_gt (tgt := 134) hx hb dX7_cast_57 (by decide) (fun c57 => ?_) (fun c57 => ?_)
            · have hi2 : i = 100 := by have := (nI_ltI (a := 99) (by omega) (by omega)).mp c57; omega
              subst hi2
              refine lv_iload_n hx hb dX7_cast_134 rfl (lv_at hl 3 rfl) ?_
              refine lv_if_ne (tgt := 143) hx hb dX7_cast_135 (by decide) (fun c135 => ?_) (fun c135 => ?_)
              · refine lv_iload hx hb dX7_cast_143 (lv_at hl 5 rfl) ?_
                exact s_iret cf hr hlk (d, pl) hw (by unfold R_cast; rw [if_pos hok, hcl, nI_clamp (by omega), if_neg c135]) (Nat.le_of_ble_eq_true rfl) (Nat.le_of_ble_eq_true rfl) dX7_cast_145 hQ
              · refine lv_iload hx hb dX7_cast_138 (lv_at hl 4 rfl) ?_
                refine lv_goto (tgt := 145) hx hb dX7_cast_140 (by decide) ?_
                exact s_iret cf hr hlk (d, pl) hw (by unfold R_cast; rw [if_pos hok, hcl, nI_clamp (by omega), if_pos c135]) (Nat.le_of_ble_eq_true rfl) (Nat.le_of_ble_eq_true rfl) dX7_cast_145 hQ
            · have hlt : i < 100 := Nat.lt_of_not_le (fun q => c57 ((nI_ltI (a := 99) (b := i) (by omega) (by omega)).mpr (by omega)))
              have hu0 : (upd d (10 + 5 * j + 2) (nI i)) 0 = nI n := by rw [upd_ne (by omega)]; exact hn
              have hu1 : (upd d (10 + 5 * j + 2) (nI i)) 1 = nI ni := by rw [upd_ne (by omega)]; exact hni
              have huT : TxOK (upd d (10 + 5 * j + 2) (nI i)) kf sf cdf 0 ft := hT.of (upd_ne (by omega))
              refine lv_aload_n hx hb dX7_cast_60 rfl (lv_at hl 0 rfl) ?_
              refine lv_iload_n hx hb dX7_cast_61 rfl (lv_at hl 1 rfl) ?_
              refine lv_iconst (v := 2) hx hb dX7_cast_62 (by decide) ?_
              refine lv_iload hx hb dX7_cast_63 (lv_at hl 6 rfl) ?_
              refine s_callv (runV cf (m_sets (d := d) hf j 2 (nI i) (by omega)) hw [0, 1] (by decide) rfl km_X7_sets ki_X7_sets q1051 (run_recv (ci := 7) (T := TX7) (N := 39) hw 0 rfl rfl) rfl rfl hl.1 rfl dX7_cast_65) hw [0, 1] (by decide) rfl (fun _ => rfl) (fun u_12 H locs hp_13 hw => ?_)
              have hw : WD g A s H locs [bO a 7 fs, bI g (ad 0) 60 (upd d (10 + 5 * j + 2) (nI i)), bI g (ad 2) 60 d, bI g (ad 5) 1344 cdf, bI g (ad 6) 14 kf, bI g (ad 7) 14 sf, bI g (ad 9) 96 pl] := hw
              refine lv_aload_n hx hb dX7_cast_68 rfl (lv_at hl 0 rfl) ?_
              refine lv_iload_n hx hb dX7_cast_69 rfl (lv_at hl 2 rfl) ?_
              refine s_callv (runV cf (m_nightsGo (d := upd d (10 + 5 * j + 2) (nI i)) (cdf := cdf) (kf := kf) (sf := sf) (pl := pl) (ft := ft) hf huT (n := n) hu0 hn10 (ni := ni) hu1 k (by omega)) hw [0, 1, 3, 4, 5, 6] (by decide) rfl km_X7_nightsGo ki_X7_nightsGo q1174 (run_recv (ci := 7) (T := TX7) (N := 39) hw 0 rfl rfl) rfl rfl hl.1 rfl dX7_cast_70) hw [0, 1, 3, 4, 5, 6] (by decide) rfl (fun _ => rfl) (fun u_14 H locs hp_15 hw => ?_)
              have hw : WD g A s H locs [bO a 7 fs, bI g (ad 0) 60 (nightsF ft k (upd d (10 + 5 * j + 2) (nI i))), bI g (ad 2) 60 d, bI g (ad 5) 1344 cdf, bI g (ad 6) 14 kf, bI g (ad 7) 14 sf, bI g (ad 9) 96 u_14] := hw
              refine lv_aload_n hx hb dX7_cast_73 rfl (lv_at hl 0 rfl) ?_
              refine lv_iload_n hx hb dX7_cast_74 rfl (lv_at hl 1 rfl) ?_
              refine lv_iconst (v := 3) hx hb dX7_cast_75 (by decide) ?_
              refine s_calli (runV cf (m_of (d := nightsF ft k (upd d (10 + 5 * j + 2) (nI i))) hf j 3 (by omega)) hw [0, 1] (by decide) rfl km_X7_of ki_X7_of q1076 (run_recv (ci := 7) (T := TX7) (N := 39) hw 0 rfl rfl) rfl rfl hl.1 rfl dX7_cast_76) hw [0, 1] (by decide) rfl (fun _ => rfl) (fun r_18 u_16 H locs hp_17 hw => ?_)
              have hw : WD g A s H locs [bO a 7 fs, bI g (ad 0) 60 (nightsF ft k (upd d (10 + 5 * j + 2) (nI i))), bI g (ad 2) 60 d, bI g (ad 5) 1344 cdf, bI g (ad 6) 14 kf, bI g (ad 7) 14 sf, bI g (ad 9) 96 u_14] := hw
              subst hp_17
              refine lv_iload hx hb dX7_cast_79 (lv_at hl 5 rfl) ?_
              refine lv_icmp_le (tgt := 89) hx hb dX7_cast_81 (by decide) (fun c81 => ?_) (fun c81 => ?_)
              · refine lv_iload hx hb dX7_cast_89 (lv_at hl 4 rfl) ?_
                refine lv_topr (y := if (castB ft d j k i).2 < castC ft d j k i then nI i else (castB ft d j k i).1) (by grind [castC]) ?_
                refine lv_istore (lv' := [(4, .int (if (castB ft d j k i).2 < castC ft d j k i then nI i else (castB ft d j k i).1)), (0, .ref a), (1, .int (nI j)), (2, .int (nI k)), (3, .int w), (5, .int ((castB ft d j k i).2)), (6, .int (nI i))]) hx hb dX7_cast_91 hl (by decide) rfl (fun ls hl => ?_)
                refine lv_aload_n hx hb dX7_cast_93 rfl (lv_at hl 1 rfl) ?_
                refine lv_iload_n hx hb dX7_cast_94 rfl (lv_at hl 2 rfl) ?_
                refine lv_iconst (v := 3) hx hb dX7_cast_95 (by decide) ?_
                refine s_calli (runV cf (m_of (d := nightsF ft k (upd d (10 + 5 * j + 2) (nI i))) hf j 3 (by omega)) hw [0, 1] (by decide) rfl km_X7_of ki_X7_of q1076 (run_recv (ci := 7) (T := TX7) (N := 39) hw 0 rfl rfl) rfl rfl hl.1 rfl dX7_cast_96) hw [0, 1] (by decide) rfl (fun _ => rfl) (fun r_21 u_19 H locs hp_20 hw => ?_)
                have hw : WD g A s H locs [bO a 7 fs, bI g (ad 0) 60 (nightsF ft k (upd d (10 + 5 * j + 2) (nI i))), bI g (ad 2) 60 d, bI g (ad 5) 1344 cdf, bI g (ad 6) 14 kf, bI g (ad 7) 14 sf, bI g (ad 9) 96 u_14] := hw
                subst hp_20
                refine lv_iload hx hb dX7_cast_99 (lv_at hl 5 rfl) ?_
                refine lv_icmp_le (tgt := 113) hx hb dX7_cast_101 (by decide) (fun c101 => ?_) (fun c101 => ?_)
                · refine lv_iload hx hb dX7_cast_113 (lv_at hl 5 rfl) ?_
                  refine lv_topr (y := if (castB ft d j k i).2 < castC ft d j k i then castC ft d j k i else (castB ft d j k i).2) (by grind [castC]) ?_
                  refine lv_istore (lv' := [(5, .int (if (castB ft d j k i).2 < castC ft d j k i then castC ft d j k i else (castB ft d j k i).2)), (4, .int (if (castB ft d j k i).2 < castC ft d j k i then nI i else (castB ft d j k i).1)), (0, .ref a), (1, .int (nI j)), (2, .int (nI k)), (3, .int w), (6, .int (nI i))]) hx hb dX7_cast_115 hl (by decide) rfl (fun ls hl => ?_)
                  refine lv_aload_n hx hb dX7_cast_117 rfl (lv_at hl 2 rfl) ?_
                  refine s_get (v := .ref (ad 2)) fb7 cf hw 0 rfl 2 rfl q923 (hf.2 2 rfl) dX7_cast_118 ?_
                  refine lv_aload_n hx hb dX7_cast_121 rfl (lv_at hl 2 rfl) ?_
                  refine s_get (v := .ref (ad 0)) fb7 cf hw 0 rfl 0 rfl q921 (hf.2 0 rfl) dX7_cast_122 ?_
                  refine s_callv (runS cf (m_copies (x := ad 2) (y := ad 0) (f := d) (t := nightsF ft k (upd d (10 + 5 * j + 2) (nI i)))) hw [2, 1] (by decide) rfl km_X7_copies ks_X7_copies q1203 rfl rfl hl.1 rfl dX7_cast_125) hw [2, 1] (by decide) rfl (fun _ => rfl) (fun u_22 H locs hp_23 hw => ?_)
                  have hw : WD g A s H locs [bO a 7 fs, bI g (ad 0) 60 d, bI g (ad 2) 60 d, bI g (ad 5) 1344 cdf, bI g (ad 6) 14 kf, bI g (ad 7) 14 sf, bI g (ad 9) 96 u_14] := hw
                  refine lv_iinc (v := nI (i + 1)) (lv' := [(6, .int (nI (i + 1))), (5, .int (if (castB ft d j k i).2 < castC ft d j k i then castC ft d j k i else (castB ft d j k i).2)), (4, .int (if (castB ft d j k i).2 < castC ft d j k i then nI i else (castB ft d j k i).1)), (0, .ref a), (1, .int (nI j)), (2, .int (nI k)), (3, .int w)]) hx hb dX7_cast_128 hl (k := 6) rfl (nI_1 i) (by decide) rfl (fun ls hl => ?_)
                  refine lv_goto (tgt := 53) hx hb dX7_cast_131 (by decide) ?_
                  exact ih53 (i + 1) u_14 (by omega) (by omega) _ _ _ hw (lv_sub hl [3, 4, 5, 6, 2, 1, 0] rfl)
                · refine lv_aload_n hx hb dX7_cast_104 rfl (lv_at hl 1 rfl) ?_
                  refine lv_iload_n hx hb dX7_cast_105 rfl (lv_at hl 2 rfl) ?_
                  refine lv_iconst (v := 3) hx hb dX7_cast_106 (by decide) ?_
                  refine s_calli (runV cf (m_of (d := nightsF ft k (upd d (10 + 5 * j + 2) (nI i))) hf j 3 (by omega)) hw [0, 1] (by decide) rfl km_X7_of ki_X7_of q1076 (run_recv (ci := 7) (T := TX7) (N := 39) hw 0 rfl rfl) rfl rfl hl.1 rfl dX7_cast_107) hw [0, 1] (by decide) rfl (fun _ => rfl) (fun r_26 u_24 H locs hp_25 hw => ?_)
                  have hw : WD g A s H locs [bO a 7 fs, bI g (ad 0) 60 (nightsF ft k (upd d (10 + 5 * j + 2) (nI i))), bI g (ad 2) 60 d, bI g (ad 5) 1344 cdf, bI g (ad 6) 14 kf, bI g (ad 7) 14 sf, bI g (ad 9) 96 u_14] := hw
                  subst hp_25
                  refine lv_goto (tgt := 115) hx hb dX7_cast_110 (by decide) ?_
                  refine lv_topr (y := if (castB ft d j k i).2 < castC ft d j k i then castC ft d j k i else (castB ft d j k i).2) (by grind [castC]) ?_
                  refine lv_istore (lv' := [(5, .int (if (castB ft d j k i).2 < castC ft d j k i then castC ft d j k i else (castB ft d j k i).2)), (4, .int (if (castB ft d j k i).2 < castC ft d j k i then nI i else (castB ft d j k i).1)), (0, .ref a), (1, .int (nI j)), (2, .int (nI k)), (3, .int w), (6, .int (nI i))]) hx hb dX7_cast_115 hl (by decide) rfl (fun ls hl => ?_)
                  refine lv_aload_n hx hb dX7_cast_117 rfl (lv_at hl 2 rfl) ?_
                  refine s_get (v := .ref (ad 2)) fb7 cf hw 0 rfl 2 rfl q923 (hf.2 2 rfl) dX7_cast_118 ?_
                  refine lv_aload_n hx hb dX7_cast_121 rfl (lv_at hl 2 rfl) ?_
                  refine s_get (v := .ref (ad 0)) fb7 cf hw 0 rfl 0 rfl q921 (hf.2 0 rfl) dX7_cast_122 ?_
                  refine s_callv (runS cf (m_copies (x := ad 2) (y := ad 0) (f := d) (t := nightsF ft k (upd d (10 + 5 * j + 2) (nI i)))) hw [2, 1] (by decide) rfl km_X7_copies ks_X7_copies q1203 rfl rfl hl.1 rfl dX7_cast_125) hw [2, 1] (by decide) rfl (fun _ => rfl) (fun u_27 H locs hp_28 hw => ?_)
                  have hw : WD g A s H locs [bO a 7 fs, bI g (ad 0) 60 d, bI g (ad 2) 60 d, bI g (ad 5) 1344 cdf, bI g (ad 6) 14 kf, bI g (ad 7) 14 sf, bI g (ad 9) 96 u_14] := hw
                  refine lv_iinc (v := nI (i + 1)) (lv' := [(6, .int (nI (i + 1))), (5, .int (if (castB ft d j k i).2 < castC ft d j k i then castC ft d j k i else (castB ft d j k i).2)), (4, .int (if (castB ft d j k i).2 < castC ft d j k i then nI i else (castB ft d j k i).1)), (0, .ref a), (1, .int (nI j)), (2, .int (nI k)), (3, .int w)]) hx hb dX7_cast_128 hl (k := 6) rfl (nI_1 i) (by decide) rfl (fun ls hl => ?_)
                  refine lv_goto (tgt := 53) hx hb dX7_cast_131 (by decide) ?_
                  exact ih53 (i + 1) u_14 (by omega) (by omega) _ _ _ hw (lv_sub hl [3, 4, 5, 6, 2, 1, 0] rfl)
              · refine lv_iload hx hb dX7_cast_84 (lv_at hl 6 rfl) ?_
                refine lv_goto (tgt := 91) hx hb dX7_cast_86 (by decide) ?_
                refine lv_topr (y := if (castB ft d j k i).2 < castC ft d j k i then nI i else (castB ft d j k i).1) (by grind [castC]) ?_
                refine lv_istore (lv' := [(4, .int (if (castB ft d j k i).2 < castC ft d j k i then nI i else (castB ft d j k i).1)), (0, .ref a), (1, .int (nI j)), (2, .int (nI k)), (3, .int w), (5, .int ((castB ft d j k i).2)), (6, .int (nI i))]) hx hb dX7_cast_91 hl (by decide) rfl (fun ls hl => ?_)
                refine lv_aload_n hx hb dX7_cast_93 rfl (lv_at hl 1 rfl) ?_
                refine lv_iload_n hx hb dX7_cast_94 rfl (lv_at hl 2 rfl) ?_
                refine lv_iconst (v := 3) hx hb dX7_cast_95 (by decide) ?_
                refine s_calli (runV cf (m_of (d := nightsF ft k (upd d (10 + 5 * j + 2) (nI i))) hf j 3 (by omega)) hw [0, 1] (by decide) rfl km_X7_of ki_X7_of q1076 (run_recv (ci := 7) (T := TX7) (N := 39) hw 0 rfl rfl) rfl rfl hl.1 rfl dX7_cast_96) hw [0, 1] (by decide) rfl (fun _ => rfl) (fun r_31 u_29 H locs hp_30 hw => ?_)
                have hw : WD g A s H locs [bO a 7 fs, bI g (ad 0) 60 (nightsF ft k (upd d (10 + 5 * j + 2) (nI i))), bI g (ad 2) 60 d, bI g (ad 5) 1344 cdf, bI g (ad 6) 14 kf, bI g (ad 7) 14 sf, bI g (ad 9) 96 u_14] := hw
                subst hp_30
                refine lv_iload hx hb dX7_cast_99 (lv_at hl 5 rfl) ?_
                refine lv_icmp_le (tgt := 113) hx hb dX7_cast_101 (by decide) (fun c101 => ?_) (fun c101 => ?_)
                · refine lv_iload hx hb dX7_cast_113 (lv_at hl 5 rfl) ?_
                  refine lv_topr (y := if (castB ft d j k i).2 < castC ft d j k i then castC ft d j k i else (castB ft d j k i).2) (by grind [castC]) ?_
                  refine lv_istore (lv' := [(5, .int (if (castB ft d j k i).2 < castC ft d j k i then castC ft d j k i else (castB ft d j k i).2)), (4, .int (if (castB ft d j k i).2 < castC ft d j k i then nI i else (castB ft d j k i).1)), (0, .ref a), (1, .int (nI j)), (2, .int (nI k)), (3, .int w), (6, .int (nI i))]) hx hb dX7_cast_115 hl (by decide) rfl (fun ls hl => ?_)
                  refine lv_aload_n hx hb dX7_cast_117 rfl (lv_at hl 2 rfl) ?_
                  refine s_get (v := .ref (ad 2)) fb7 cf hw 0 rfl 2 rfl q923 (hf.2 2 rfl) dX7_cast_118 ?_
                  refine lv_aload_n hx hb dX7_cast_121 rfl (lv_at hl 2 rfl) ?_
                  refine s_get (v := .ref (ad 0)) fb7 cf hw 0 rfl 0 rfl q921 (hf.2 0 rfl) dX7_cast_122 ?_
                  refine s_callv (runS cf (m_copies (x := ad 2) (y := ad 0) (f := d) (t := nightsF ft k (upd d (10 + 5 * j + 2) (nI i)))) hw [2, 1] (by decide) rfl km_X7_copies ks_X7_copies q1203 rfl rfl hl.1 rfl dX7_cast_125) hw [2, 1] (by decide) rfl (fun _ => rfl) (fun u_32 H locs hp_33 hw => ?_)
                  have hw : WD g A s H locs [bO a 7 fs, bI g (ad 0) 60 d, bI g (ad 2) 60 d, bI g (ad 5) 1344 cdf, bI g (ad 6) 14 kf, bI g (ad 7) 14 sf, bI g (ad 9) 96 u_14] := hw
                  refine lv_iinc (v := nI (i + 1)) (lv' := [(6, .int (nI (i + 1))), (5, .int (if (castB ft d j k i).2 < castC ft d j k i then castC ft d j k i else (castB ft d j k i).2)), (4, .int (if (castB ft d j k i).2 < castC ft d j k i then nI i else (castB ft d j k i).1)), (0, .ref a), (1, .int (nI j)), (2, .int (nI k)), (3, .int w)]) hx hb dX7_cast_128 hl (k := 6) rfl (nI_1 i) (by decide) rfl (fun ls hl => ?_)
                  refine lv_goto (tgt := 53) hx hb dX7_cast_131 (by decide) ?_
                  exact ih53 (i + 1) u_14 (by omega) (by omega) _ _ _ hw (lv_sub hl [3, 4, 5, 6, 2, 1, 0] rfl)
                · refine lv_aload_n hx hb dX7_cast_104 rfl (lv_at hl 1 rfl) ?_
                  refine lv_iload_n hx hb dX7_cast_105 rfl (lv_at hl 2 rfl) ?_
                  refine lv_iconst (v := 3) hx hb dX7_cast_106 (by decide) ?_
                  refine s_calli (runV cf (m_of (d := nightsF ft k (upd d (10 + 5 * j + 2) (nI i))) hf j 3 (by omega)) hw [0, 1] (by decide) rfl km_X7_of ki_X7_of q1076 (run_recv (ci := 7) (T := TX7) (N := 39) hw 0 rfl rfl) rfl rfl hl.1 rfl dX7_cast_107) hw [0, 1] (by decide) rfl (fun _ => rfl) (fun r_36 u_34 H locs hp_35 hw => ?_)
                  have hw : WD g A s H locs [bO a 7 fs, bI g (ad 0) 60 (nightsF ft k (upd d (10 + 5 * j + 2) (nI i))), bI g (ad 2) 60 d, bI g (ad 5) 1344 cdf, bI g (ad 6) 14 kf, bI g (ad 7) 14 sf, bI g (ad 9) 96 u_14] := hw
                  subst hp_35
                  refine lv_goto (tgt := 115) hx hb dX7_cast_110 (by decide) ?_
                  refine lv_topr (y := if (castB ft d j k i).2 < castC ft d j k i then castC ft d j k i else (castB ft d j k i).2) (by grind [castC]) ?_
                  refine lv_istore (lv' := [(5, .int (if (castB ft d j k i).2 < castC ft d j k i then castC ft d j k i else (castB ft d j k i).2)), (4, .int (if (castB ft d j k i).2 < castC ft d j k i then nI i else (castB ft d j k i).1)), (0, .ref a), (1, .int (nI j)), (2, .int (nI k)), (3, .int w), (6, .int (nI i))]) hx hb dX7_cast_115 hl (by decide) rfl (fun ls hl => ?_)
                  refine lv_aload_n hx hb dX7_cast_117 rfl (lv_at hl 2 rfl) ?_
                  refine s_get (v := .ref (ad 2)) fb7 cf hw 0 rfl 2 rfl q923 (hf.2 2 rfl) dX7_cast_118 ?_
                  refine lv_aload_n hx hb dX7_cast_121 rfl (lv_at hl 2 rfl) ?_
                  refine s_get (v := .ref (ad 0)) fb7 cf hw 0 rfl 0 rfl q921 (hf.2 0 rfl) dX7_cast_122 ?_
                  refine s_callv (runS cf (m_copies (x := ad 2) (y := ad 0) (f := d) (t := nightsF ft k (upd d (10 + 5 * j + 2) (nI i)))) hw [2, 1] (by decide) rfl km_X7_copies ks_X7_copies q1203 rfl rfl hl.1 rfl dX7_cast_125) hw [2, 1] (by decide) rfl (fun _ => rfl) (fun u_37 H locs hp_38 hw => ?_)
                  have hw : WD g A s H locs [bO a 7 fs, bI g (ad 0) 60 d, bI g (ad 2) 60 d, bI g (ad 5) 1344 cdf, bI g (ad 6) 14 kf, bI g (ad 7) 14 sf, bI g (ad 9) 96 u_14] := hw
                  refine lv_iinc (v := nI (i + 1)) (lv' := [(6, .int (nI (i + 1))), (5, .int (if (castB ft d j k i).2 < castC ft d j k i then castC ft d j k i else (castB ft d j k i).2)), (4, .int (if (castB ft d j k i).2 < castC ft d j k i then nI i else (castB ft d j k i).1)), (0, .ref a), (1, .int (nI j)), (2, .int (nI k)), (3, .int w)]) hx hb dX7_cast_128 hl (k := 6) rfl (nI_1 i) (by decide) rfl (fun ls hl => ?_)
                  refine lv_goto (tgt := 53) hx hb dX7_cast_131 (by decide) ?_
                  exact ih53 (i + 1) u_14 (by omega) (by omega) _ _ _ hw (lv_sub hl [3, 4, 5, 6, 2, 1, 0] rfl)
        exact L53 101 0 pl (by omega) (by omega) _ _ _ hw (lv_sub hl [3, 4, 5, 6, 2, 1, 0] rfl)
      · have c27 := b01_z c27
        refine lv_ldc hx hb hown (hts _ q1049) dX7_cast_30 ?_
        exact s_iret cf hr hlk (as_, pl) hw (by unfold R_cast; rw [if_neg (by grind)]) (Nat.le_of_ble_eq_true rfl) (Nat.le_of_ble_eq_true rfl) dX7_cast_32 hQ
set_option maxRecDepth 100000 in
set_option maxHeartbeats 4000000 in
theorem m_becomes {l : Launch} {g : GG} {a : Nat} {ad : Nat → Nat} {fs : List Value} (hf : MF ad fs) {d as_ cdf kf sf pl : DD} {ft : TXC} (hT : TxOK d kf sf cdf 0 ft) {n : Nat} (hn : d 0 = nI n) (hn10 : n ≤ 10) {ni : Nat} (hni : d 1 = nI ni) (hni9 : ni ≤ 9999) (x y w : Int32) : Ct l g yX7_becomes cX7_becomes 7 (Option.some Jvm.ClassFile.FieldType.int) 7 0 0 [.ref a, .int x, .int y, .int w] [bO a 7 fs, bI g (ad 0) 60 d, bI g (ad 2) 60 as_, bI g (ad 5) 1344 cdf, bI g (ad 6) 14 kf, bI g (ad 7) 14 sf, bI g (ad 9) 96 pl] (QI g (fun r (_ : DD × DD) => r = R_becomes ft d x y w) (fun u => [bO a 7 fs, bI g (ad 0) 60 d, bI g (ad 2) 60 u.1, bI g (ad 5) 1344 cdf, bI g (ad 6) 14 kf, bI g (ad 7) 14 sf, bI g (ad 9) 96 u.2])) := by
  refine Ct.of (by decide) rfl ?_
  intro p e s m args below meth c A H locs ls Qf cf hr hlk hnm hQ hw hl
  have hx := cf.1
  have hb := cf.2.1
  have hml := cf.2.2.1
  have hown := cf.2.2.2.1
  have hts := cf.2.2.2.2
  have hw : WD g A s H locs [bO a 7 fs, bI g (ad 0) 60 d, bI g (ad 2) 60 as_, bI g (ad 5) 1344 cdf, bI g (ad 6) 14 kf, bI g (ad 7) 14 sf, bI g (ad 9) 96 pl] := hw
  have hl : lv_has ls 7 [(0, .ref a), (1, .int x), (2, .int y), (3, .int w)] := hl
  refine lv_aload_n hx hb dX7_becomes_0 rfl (lv_at hl 0 rfl) ?_
  refine lv_iload_n hx hb dX7_becomes_1 rfl (lv_at hl 1 rfl) ?_
  refine s_calli (runV cf (m_isHouse (d := d) hf x) hw [0, 1] (by decide) rfl km_X7_isHouse ki_X7_isHouse q1059 (run_recv (ci := 7) (T := TX7) (N := 39) hw 0 rfl rfl) rfl rfl hl.1 rfl dX7_becomes_2) hw [0, 1] (by decide) rfl (fun _ => rfl) (fun r_3 u_1 H locs hp_2 hw => ?_)
  have hw : WD g A s H locs [bO a 7 fs, bI g (ad 0) 60 d, bI g (ad 2) 60 as_, bI g (ad 5) 1344 cdf, bI g (ad 6) 14 kf, bI g (ad 7) 14 sf, bI g (ad 9) 96 pl] := hw
  subst hp_2
  refine lv_if_eq (tgt := 30) hx hb dX7_becomes_5 (by decide) (fun c5 => ?_) (fun c5 => ?_)
  · have c5 := b01_z c5
    refine lv_ldc hx hb hown (hts _ q1049) dX7_becomes_30 ?_
    exact s_iret cf hr hlk (as_, pl) hw (by unfold R_becomes; rw [if_neg (by grind)]) (Nat.le_of_ble_eq_true rfl) (Nat.le_of_ble_eq_true rfl) dX7_becomes_32 hQ
  · have c5 := b01_n c5
    refine lv_iload_n hx hb dX7_becomes_8 rfl (lv_at hl 2 rfl) ?_
    refine lv_i2l (v := (y : Int32).toInt64) hx hb dX7_becomes_9 rfl ?_
    refine lv_lconst (v := (1 : Int32).toInt64) hx hb dX7_becomes_10 (by decide) ?_
    refine lv_ldc2 hx hb hown (hts _ q1228) dX7_becomes_11 ?_
    refine lv_toplr (y := (60 : Int32).toInt64) (by decide) ?_
    refine s_calli (runS cf (m_in (y : Int32) (1 : Int32) (60 : Int32)) hw [] (by decide) rfl km_X7_in ks_X7_in q1045 rfl rfl hl.1 rfl dX7_becomes_14) hw [] (by decide) rfl (fun _ => rfl) (fun r_6 u_4 H locs hp_5 hw => ?_)
    have hw : WD g A s H locs [bO a 7 fs, bI g (ad 0) 60 d, bI g (ad 2) 60 as_, bI g (ad 5) 1344 cdf, bI g (ad 6) 14 kf, bI g (ad 7) 14 sf, bI g (ad 9) 96 pl] := hw
    subst hp_5
    refine lv_if_eq (tgt := 30) hx hb dX7_becomes_17 (by decide) (fun c17 => ?_) (fun c17 => ?_)
    · have c17 := b01_z c17
      refine lv_ldc hx hb hown (hts _ q1049) dX7_becomes_30 ?_
      exact s_iret cf hr hlk (as_, pl) hw (by unfold R_becomes; rw [if_neg (by grind)]) (Nat.le_of_ble_eq_true rfl) (Nat.le_of_ble_eq_true rfl) dX7_becomes_32 hQ
    · have c17 := b01_n c17
      refine lv_iload_n hx hb dX7_becomes_20 rfl (lv_at hl 3 rfl) ?_
      refine lv_i2l (v := (w : Int32).toInt64) hx hb dX7_becomes_21 rfl ?_
      refine lv_lconst (v := (0 : Int32).toInt64) hx hb dX7_becomes_22 (by decide) ?_
      refine lv_lconst (v := (1 : Int32).toInt64) hx hb dX7_becomes_23 (by decide) ?_
      refine s_calli (runS cf (m_in (w : Int32) (0 : Int32) (1 : Int32)) hw [] (by decide) rfl km_X7_in ks_X7_in q1045 rfl rfl hl.1 rfl dX7_becomes_24) hw [] (by decide) rfl (fun _ => rfl) (fun r_9 u_7 H locs hp_8 hw => ?_)
      have hw : WD g A s H locs [bO a 7 fs, bI g (ad 0) 60 d, bI g (ad 2) 60 as_, bI g (ad 5) 1344 cdf, bI g (ad 6) 14 kf, bI g (ad 7) 14 sf, bI g (ad 9) 96 pl] := hw
      subst hp_8
      refine lv_if_ne (tgt := 33) hx hb dX7_becomes_27 (by decide) (fun c27 => ?_) (fun c27 => ?_)
      · have c27 := b01_n c27
        have hok : okCB d x y w := ⟨c5, c17, c27⟩
        obtain ⟨j, hjn, hxj, hcl⟩ := isH_nat hn hn10 c5
        subst hxj
        obtain ⟨k, hk, hkx⟩ := rng_nat (m := 60) (by omega) (by grind) c17.2
        subst hkx
        refine lv_aload_n hx hb dX7_becomes_33 rfl (lv_at hl 0 rfl) ?_
        refine s_get (v := .ref (ad 0)) fb7 cf hw 0 rfl 0 rfl q921 (hf.2 0 rfl) dX7_becomes_34 ?_
        refine lv_aload_n hx hb dX7_becomes_37 rfl (lv_at hl 0 rfl) ?_
        refine s_get (v := .ref (ad 2)) fb7 cf hw 0 rfl 2 rfl q923 (hf.2 2 rfl) dX7_becomes_38 ?_
        refine s_callv (runS cf (m_copies (x := ad 0) (y := ad 2) (f := d) (t := as_)) hw [1, 2] (by decide) rfl km_X7_copies ks_X7_copies q1203 rfl rfl hl.1 rfl dX7_becomes_41) hw [1, 2] (by decide) rfl (fun _ => rfl) (fun u_10 H locs hp_11 hw => ?_)
        have hw : WD g A s H locs [bO a 7 fs, bI g (ad 0) 60 d, bI g (ad 2) 60 d, bI g (ad 5) 1344 cdf, bI g (ad 6) 14 kf, bI g (ad 7) 14 sf, bI g (ad 9) 96 pl] := hw
        refine lv_iconst (v := 0) hx hb dX7_becomes_44 (by decide) ?_
        refine lv_istore (lv' := [(4, .int 0), (0, .ref a), (1, .int (nI j)), (2, .int (nI k)), (3, .int w)]) hx hb dX7_becomes_45 hl (by decide) rfl (fun ls hl => ?_)
        refine lv_ldc hx hb hown (hts _ q1233) dX7_becomes_47 ?_
        refine lv_istore (lv' := [(5, .int 100000), (4, .int 0), (0, .ref a), (1, .int (nI j)), (2, .int (nI k)), (3, .int w)]) hx hb dX7_becomes_49 hl (by decide) rfl (fun ls hl => ?_)
        refine lv_iconst (v := 0) hx hb dX7_becomes_51 (by decide) ?_
        refine lv_istore (lv' := [(6, .int 0), (5, .int 100000), (4, .int 0), (0, .ref a), (1, .int (nI j)), (2, .int (nI k)), (3, .int w)]) hx hb dX7_becomes_52 hl (by decide) rfl (fun ls hl => ?_)
        have L54 : ∀ (fu : Nat) (i : Nat) (pl : DD), (i ≤ 6) → (6 < i + fu) → ∀ (H : Heap) (locs : List Loc) (ls : Array Slot), WD g A s H locs [bO a 7 fs, bI g (ad 0) 60 d, bI g (ad 2) 60 d, bI g (ad 5) 1344 cdf, bI g (ad 6) 14 kf, bI g (ad 7) 14 sf, bI g (ad 9) 96 pl] → lv_has ls 7 [(0, .ref a), (1, .int (nI j)), (2, .int (nI k)), (3, .int w), (4, .int ((becB ft d j k i).1)), (5, .int ((becB ft d j k i).2)), (6, .int (nI i))] → W p l e (rmx 7 0 0) s m args below meth c H locs 0 0 Qf (F0 m 54 ls []) := by
          intro fu
          induction fu with
          | zero => intro i pl hi hfu; exfalso; omega
          | succ fu ih54 =>
            intro i pl hi hfu H locs ls hw hl
            refine lv_iload hx hb dX7_becomes_54 (lv_at hl 6 rfl) ?_
            refine lv_iconst (v := 5) hx hb dX7_becomes_56 (by decide) ?_
            refine lv_icmp_gt (tgt := 137) hx hb dX7_becomes_57 (by decide) (fun c57 => ?_) (fun c57 => ?_)
            · have hi2 : i = 6 := by have := (nI_ltI (a := 5) (by omega) (by omega)).mp c57; omega
              subst hi2
              refine lv_iload_n hx hb dX7_becomes_137 rfl (lv_at hl 3 rfl) ?_
              refine lv_if_ne (tgt := 146) hx hb dX7_becomes_138 (by decide) (fun c138 => ?_) (fun c138 => ?_)
              · refine lv_iload hx hb dX7_becomes_146 (lv_at hl 5 rfl) ?_
                exact s_iret cf hr hlk (d, pl) hw (by unfold R_becomes; rw [if_pos hok, hcl, nI_clamp (by omega), if_neg c138]) (Nat.le_of_ble_eq_true rfl) (Nat.le_of_ble_eq_true rfl) dX7_becomes_148 hQ
              · refine lv_iload hx hb dX7_becomes_141 (lv_at hl 4 rfl) ?_
                refine lv_goto (tgt := 148) hx hb dX7_becomes_143 (by decide) ?_
                exact s_iret cf hr hlk (d, pl) hw (by unfold R_becomes; rw [if_pos hok, hcl, nI_clamp (by omega), if_pos c138]) (Nat.le_of_ble_eq_true rfl) (Nat.le_of_ble_eq_true rfl) dX7_becomes_148 hQ
            · have hlt : i < 6 := Nat.lt_of_not_le (fun q => c57 ((nI_ltI (a := 5) (b := i) (by omega) (by omega)).mpr (by omega)))
              have hu0 : (upd d (10 + 5 * j + 0) (nI i)) 0 = nI n := by rw [upd_ne (by omega)]; exact hn
              have hu1 : (upd d (10 + 5 * j + 0) (nI i)) 1 = nI ni := by rw [upd_ne (by omega)]; exact hni
              have huT : TxOK (upd d (10 + 5 * j + 0) (nI i)) kf sf cdf 0 ft := hT.of (upd_ne (by omega))
              refine lv_aload_n hx hb dX7_becomes_60 rfl (lv_at hl 0 rfl) ?_
              refine lv_iload_n hx hb dX7_becomes_61 rfl (lv_at hl 1 rfl) ?_
              refine lv_iconst (v := 0) hx hb dX7_becomes_62 (by decide) ?_
              refine lv_iload hx hb dX7_becomes_63 (lv_at hl 6 rfl) ?_
              refine s_callv (runV cf (m_sets (d := d) hf j 0 (nI i) (by omega)) hw [0, 1] (by decide) rfl km_X7_sets ki_X7_sets q1051 (run_recv (ci := 7) (T := TX7) (N := 39) hw 0 rfl rfl) rfl rfl hl.1 rfl dX7_becomes_65) hw [0, 1] (by decide) rfl (fun _ => rfl) (fun u_12 H locs hp_13 hw => ?_)
              have hw : WD g A s H locs [bO a 7 fs, bI g (ad 0) 60 (upd d (10 + 5 * j + 0) (nI i)), bI g (ad 2) 60 d, bI g (ad 5) 1344 cdf, bI g (ad 6) 14 kf, bI g (ad 7) 14 sf, bI g (ad 9) 96 pl] := hw
              refine lv_aload_n hx hb dX7_becomes_68 rfl (lv_at hl 0 rfl) ?_
              refine lv_iload_n hx hb dX7_becomes_69 rfl (lv_at hl 2 rfl) ?_
              refine s_callv (runV cf (m_nightsGo (d := upd d (10 + 5 * j + 0) (nI i)) (cdf := cdf) (kf := kf) (sf := sf) (pl := pl) (ft := ft) hf huT (n := n) hu0 hn10 (ni := ni) hu1 k (by omega)) hw [0, 1, 3, 4, 5, 6] (by decide) rfl km_X7_nightsGo ki_X7_nightsGo q1174 (run_recv (ci := 7) (T := TX7) (N := 39) hw 0 rfl rfl) rfl rfl hl.1 rfl dX7_becomes_70) hw [0, 1, 3, 4, 5, 6] (by decide) rfl (fun _ => rfl) (fun u_14 H locs hp_15 hw => ?_)
              have hw : WD g A s H locs [bO a 7 fs, bI g (ad 0) 60 (nightsF ft k (upd d (10 + 5 * j + 0) (nI i))), bI g (ad 2) 60 d, bI g (ad 5) 1344 cdf, bI g (ad 6) 14 kf, bI g (ad 7) 14 sf, bI g (ad 9) 96 u_14] := hw
              refine lv_aload_n hx hb dX7_becomes_73 rfl (lv_at hl 0 rfl) ?_
              refine s_get (v := .ref (ad 0)) fb7 cf hw 0 rfl 0 rfl q921 (hf.2 0 rfl) dX7_becomes_74 ?_
              refine lv_bipush (v := 6) hx hb dX7_becomes_77 (by decide) ?_
              refine s_iald (j := 6) cf hw 1 rfl (rfl) (by decide) rfl dX7_becomes_79 ?_
              refine lv_iload hx hb dX7_becomes_80 (lv_at hl 5 rfl) ?_
              refine lv_icmp_ge (tgt := 90) hx hb dX7_becomes_82 (by decide) (fun c82 => ?_) (fun c82 => ?_)
              · refine lv_iload hx hb dX7_becomes_90 (lv_at hl 4 rfl) ?_
                refine lv_topr (y := if becC ft d j k i < (becB ft d j k i).2 then nI i else (becB ft d j k i).1) (by grind [becC]) ?_
                refine lv_istore (lv' := [(4, .int (if becC ft d j k i < (becB ft d j k i).2 then nI i else (becB ft d j k i).1)), (0, .ref a), (1, .int (nI j)), (2, .int (nI k)), (3, .int w), (5, .int ((becB ft d j k i).2)), (6, .int (nI i))]) hx hb dX7_becomes_92 hl (by decide) rfl (fun ls hl => ?_)
                refine lv_aload_n hx hb dX7_becomes_94 rfl (lv_at hl 1 rfl) ?_
                refine s_get (v := .ref (ad 0)) fb7 cf hw 0 rfl 0 rfl q921 (hf.2 0 rfl) dX7_becomes_95 ?_
                refine lv_bipush (v := 6) hx hb dX7_becomes_98 (by decide) ?_
                refine s_iald (j := 6) cf hw 1 rfl (rfl) (by decide) rfl dX7_becomes_100 ?_
                refine lv_iload hx hb dX7_becomes_101 (lv_at hl 5 rfl) ?_
                refine lv_icmp_ge (tgt := 116) hx hb dX7_becomes_103 (by decide) (fun c103 => ?_) (fun c103 => ?_)
                · refine lv_iload hx hb dX7_becomes_116 (lv_at hl 5 rfl) ?_
                  refine lv_topr (y := if becC ft d j k i < (becB ft d j k i).2 then becC ft d j k i else (becB ft d j k i).2) (by grind [becC]) ?_
                  refine lv_istore (lv' := [(5, .int (if becC ft d j k i < (becB ft d j k i).2 then becC ft d j k i else (becB ft d j k i).2)), (4, .int (if becC ft d j k i < (becB ft d j k i).2 then nI i else (becB ft d j k i).1)), (0, .ref a), (1, .int (nI j)), (2, .int (nI k)), (3, .int w), (6, .int (nI i))]) hx hb dX7_becomes_118 hl (by decide) rfl (fun ls hl => ?_)
                  refine lv_aload_n hx hb dX7_becomes_120 rfl (lv_at hl 2 rfl) ?_
                  refine s_get (v := .ref (ad 2)) fb7 cf hw 0 rfl 2 rfl q923 (hf.2 2 rfl) dX7_becomes_121 ?_
                  refine lv_aload_n hx hb dX7_becomes_124 rfl (lv_at hl 2 rfl) ?_
                  refine s_get (v := .ref (ad 0)) fb7 cf hw 0 rfl 0 rfl q921 (hf.2 0 rfl) dX7_becomes_125 ?_
                  refine s_callv (runS cf (m_copies (x := ad 2) (y := ad 0) (f := d) (t := nightsF ft k (upd d (10 + 5 * j + 0) (nI i)))) hw [2, 1] (by decide) rfl km_X7_copies ks_X7_copies q1203 rfl rfl hl.1 rfl dX7_becomes_128) hw [2, 1] (by decide) rfl (fun _ => rfl) (fun u_16 H locs hp_17 hw => ?_)
                  have hw : WD g A s H locs [bO a 7 fs, bI g (ad 0) 60 d, bI g (ad 2) 60 d, bI g (ad 5) 1344 cdf, bI g (ad 6) 14 kf, bI g (ad 7) 14 sf, bI g (ad 9) 96 u_14] := hw
                  refine lv_iinc (v := nI (i + 1)) (lv' := [(6, .int (nI (i + 1))), (5, .int (if becC ft d j k i < (becB ft d j k i).2 then becC ft d j k i else (becB ft d j k i).2)), (4, .int (if becC ft d j k i < (becB ft d j k i).2 then nI i else (becB ft d j k i).1)), (0, .ref a), (1, .int (nI j)), (2, .int (nI k)), (3, .int w)]) hx hb dX7_becomes_131 hl (k := 6) rfl (nI_1 i) (by decide) rfl (fun ls hl => ?_)
                  refine lv_goto (tgt := 54) hx hb dX7_becomes_134 (by decide) ?_
                  exact ih54 (i + 1) u_14 (by omega) (by omega) _ _ _ hw (lv_sub hl [3, 4, 5, 6, 2, 1, 0] rfl)
                · refine lv_aload_n hx hb dX7_becomes_106 rfl (lv_at hl 1 rfl) ?_
                  refine s_get (v := .ref (ad 0)) fb7 cf hw 0 rfl 0 rfl q921 (hf.2 0 rfl) dX7_becomes_107 ?_
                  refine lv_bipush (v := 6) hx hb dX7_becomes_110 (by decide) ?_
                  refine s_iald (j := 6) cf hw 1 rfl (rfl) (by decide) rfl dX7_becomes_112 ?_
                  refine lv_goto (tgt := 118) hx hb dX7_becomes_113 (by decide) ?_
                  refine lv_topr (y := if becC ft d j k i < (becB ft d j k i).2 then becC ft d j k i else (becB ft d j k i).2) (by grind [becC]) ?_
                  refine lv_istore (lv' := [(5, .int (if becC ft d j k i < (becB ft d j k i).2 then becC ft d j k i else (becB ft d j k i).2)), (4, .int (if becC ft d j k i < (becB ft d j k i).2 then nI i else (becB ft d j k i).1)), (0, .ref a), (1, .int (nI j)), (2, .int (nI k)), (3, .int w), (6, .int (nI i))]) hx hb dX7_becomes_118 hl (by decide) rfl (fun ls hl => ?_)
                  refine lv_aload_n hx hb dX7_becomes_120 rfl (lv_at hl 2 rfl) ?_
                  refine s_get (v := .ref (ad 2)) fb7 cf hw 0 rfl 2 rfl q923 (hf.2 2 rfl) dX7_becomes_121 ?_
                  refine lv_aload_n hx hb dX7_becomes_124 rfl (lv_at hl 2 rfl) ?_
                  refine s_get (v := .ref (ad 0)) fb7 cf hw 0 rfl 0 rfl q921 (hf.2 0 rfl) dX7_becomes_125 ?_
                  refine s_callv (runS cf (m_copies (x := ad 2) (y := ad 0) (f := d) (t := nightsF ft k (upd d (10 + 5 * j + 0) (nI i)))) hw [2, 1] (by decide) rfl km_X7_copies ks_X7_copies q1203 rfl rfl hl.1 rfl dX7_becomes_128) hw [2, 1] (by decide) rfl (fun _ => rfl) (fun u_18 H locs hp_19 hw => ?_)
                  have hw : WD g A s H locs [bO a 7 fs, bI g (ad 0) 60 d, bI g (ad 2) 60 d, bI g (ad 5) 1344 cdf, bI g (ad 6) 14 kf, bI g (ad 7) 14 sf, bI g (ad 9) 96 u_14] := hw
                  refine lv_iinc (v := nI (i + 1)) (lv' := [(6, .int (nI (i + 1))), (5, .int (if becC ft d j k i < (becB ft d j k i).2 then becC ft d j k i else (becB ft d j k i).2)), (4, .int (if becC ft d j k i < (becB ft d j k i).2 then nI i else (becB ft d j k i).1)), (0, .ref a), (1, .int (nI j)), (2, .int (nI k)), (3, .int w)]) hx hb dX7_becomes_131 hl (k := 6) rfl (nI_1 i) (by decide) rfl (fun ls hl => ?_)
                  refine lv_goto (tgt := 54) hx hb dX7_becomes_134 (by decide) ?_
                  exact ih54 (i + 1) u_14 (by omega) (by omega) _ _ _ hw (lv_sub hl [3, 4, 5, 6, 2, 1, 0] rfl)
              · refine lv_iload hx hb dX7_becomes_85 (lv_at hl 6 rfl) ?_
                refine lv_goto (tgt := 92) hx hb dX7_becomes_87 (by decide) ?_
                refine lv_topr (y := if becC ft d j k i < (becB ft d j k i).2 then nI i else (becB ft d j k i).1) (by grind [becC]) ?_
                refine lv_istore (lv' := [(4, .int (if becC ft d j k i < (becB ft d j k i).2 then nI i else (becB ft d j k i).1)), (0, .ref a), (1, .int (nI j)), (2, .int (nI k)), (3, .int w), (5, .int ((becB ft d j k i).2)), (6, .int (nI i))]) hx hb dX7_becomes_92 hl (by decide) rfl (fun ls hl => ?_)
                refine lv_aload_n hx hb dX7_becomes_94 rfl (lv_at hl 1 rfl) ?_
                refine s_get (v := .ref (ad 0)) fb7 cf hw 0 rfl 0 rfl q921 (hf.2 0 rfl) dX7_becomes_95 ?_
                refine lv_bipush (v := 6) hx hb dX7_becomes_98 (by decide) ?_
                refine s_iald (j := 6) cf hw 1 rfl (rfl) (by decide) rfl dX7_becomes_100 ?_
                refine lv_iload hx hb dX7_becomes_101 (lv_at hl 5 rfl) ?_
                refine lv_icmp_ge (tgt := 116) hx hb dX7_becomes_103 (by decide) (fun c103 => ?_) (fun c103 => ?_)
                · refine lv_iload hx hb dX7_becomes_116 (lv_at hl 5 rfl) ?_
                  refine lv_topr (y := if becC ft d j k i < (becB ft d j k i).2 then becC ft d j k i else (becB ft d j k i).2) (by grind [becC]) ?_
                  refine lv_istore (lv' := [(5, .int (if becC ft d j k i < (becB ft d j k i).2 then becC ft d j k i else (becB ft d j k i).2)), (4, .int (if becC ft d j k i < (becB ft d j k i).2 then nI i else (becB ft d j k i).1)), (0, .ref a), (1, .int (nI j)), (2, .int (nI k)), (3, .int w), (6, .int (nI i))]) hx hb dX7_becomes_118 hl (by decide) rfl (fun ls hl => ?_)
                  refine lv_aload_n hx hb dX7_becomes_120 rfl (lv_at hl 2 rfl) ?_
                  refine s_get (v := .ref (ad 2)) fb7 cf hw 0 rfl 2 rfl q923 (hf.2 2 rfl) dX7_becomes_121 ?_
                  refine lv_aload_n hx hb dX7_becomes_124 rfl (lv_at hl 2 rfl) ?_
                  refine s_get (v := .ref (ad 0)) fb7 cf hw 0 rfl 0 rfl q921 (hf.2 0 rfl) dX7_becomes_125 ?_
                  refine s_callv (runS cf (m_copies (x := ad 2) (y := ad 0) (f := d) (t := nightsF ft k (upd d (10 + 5 * j + 0) (nI i)))) hw [2, 1] (by decide) rfl km_X7_copies ks_X7_copies q1203 rfl rfl hl.1 rfl dX7_becomes_128) hw [2, 1] (by decide) rfl (fun _ => rfl) (fun u_20 H locs hp_21 hw => ?_)
                  have hw : WD g A s H locs [bO a 7 fs, bI g (ad 0) 60 d, bI g (ad 2) 60 d, bI g (ad 5) 1344 cdf, bI g (ad 6) 14 kf, bI g (ad 7) 14 sf, bI g (ad 9) 96 u_14] := hw
                  refine lv_iinc (v := nI (i + 1)) (lv' := [(6, .int (nI (i + 1))), (5, .int (if becC ft d j k i < (becB ft d j k i).2 then becC ft d j k i else (becB ft d j k i).2)), (4, .int (if becC ft d j k i < (becB ft d j k i).2 then nI i else (becB ft d j k i).1)), (0, .ref a), (1, .int (nI j)), (2, .int (nI k)), (3, .int w)]) hx hb dX7_becomes_131 hl (k := 6) rfl (nI_1 i) (by decide) rfl (fun ls hl => ?_)
                  refine lv_goto (tgt := 54) hx hb dX7_becomes_134 (by decide) ?_
                  exact ih54 (i + 1) u_14 (by omega) (by omega) _ _ _ hw (lv_sub hl [3, 4, 5, 6, 2, 1, 0] rfl)
                · refine lv_aload_n hx hb dX7_becomes_106 rfl (lv_at hl 1 rfl) ?_
                  refine s_get (v := .ref (ad 0)) fb7 cf hw 0 rfl 0 rfl q921 (hf.2 0 rfl) dX7_becomes_107 ?_
                  refine lv_bipush (v := 6) hx hb dX7_becomes_110 (by decide) ?_
                  refine s_iald (j := 6) cf hw 1 rfl (rfl) (by decide) rfl dX7_becomes_112 ?_
                  refine lv_goto (tgt := 118) hx hb dX7_becomes_113 (by decide) ?_
                  refine lv_topr (y := if becC ft d j k i < (becB ft d j k i).2 then becC ft d j k i else (becB ft d j k i).2) (by grind [becC]) ?_
                  refine lv_istore (lv' := [(5, .int (if becC ft d j k i < (becB ft d j k i).2 then becC ft d j k i else (becB ft d j k i).2)), (4, .int (if becC ft d j k i < (becB ft d j k i).2 then nI i else (becB ft d j k i).1)), (0, .ref a), (1, .int (nI j)), (2, .int (nI k)), (3, .int w), (6, .int (nI i))]) hx hb dX7_becomes_118 hl (by decide) rfl (fun ls hl => ?_)
                  refine lv_aload_n hx hb dX7_becomes_120 rfl (lv_at hl 2 rfl) ?_
                  refine s_get (v := .ref (ad 2)) fb7 cf hw 0 rfl 2 rfl q923 (hf.2 2 rfl) dX7_becomes_121 ?_
                  refine lv_aload_n hx hb dX7_becomes_124 rfl (lv_at hl 2 rfl) ?_
                  refine s_get (v := .ref (ad 0)) fb7 cf hw 0 rfl 0 rfl q921 (hf.2 0 rfl) dX7_becomes_125 ?_
                  refine s_callv (runS cf (m_copies (x := ad 2) (y := ad 0) (f := d) (t := nightsF ft k (upd d (10 + 5 * j + 0) (nI i)))) hw [2, 1] (by decide) rfl km_X7_copies ks_X7_copies q1203 rfl rfl hl.1 rfl dX7_becomes_128) hw [2, 1] (by decide) rfl (fun _ => rfl) (fun u_22 H locs hp_23 hw => ?_)
                  have hw : WD g A s H locs [bO a 7 fs, bI g (ad 0) 60 d, bI g (ad 2) 60 d, bI g (ad 5) 1344 cdf, bI g (ad 6) 14 kf, bI g (ad 7) 14 sf, bI g (ad 9) 96 u_14] := hw
                  refine lv_iinc (v := nI (i + 1)) (lv' := [(6, .int (nI (i + 1))), (5, .int (if becC ft d j k i < (becB ft d j k i).2 then becC ft d j k i else (becB ft d j k i).2)), (4, .int (if becC ft d j k i < (becB ft d j k i).2 then nI i else (becB ft d j k i).1)), (0, .ref a), (1, .int (nI j)), (2, .int (nI k)), (3, .int w)]) hx hb dX7_becomes_131 hl (k := 6) rfl (nI_1 i) (by decide) rfl (fun ls hl => ?_)
                  refine lv_goto (tgt := 54) hx hb dX7_becomes_134 (by decide) ?_
                  exact ih54 (i + 1) u_14 (by omega) (by omega) _ _ _ hw (lv_sub hl [3, 4, 5, 6, 2, 1, 0] rfl)
        exact L54 7 0 pl (by omega) (by omega) _ _ _ hw (lv_sub hl [3, 4, 5, 6, 2, 1, 0] rfl)
      · have c27 := b01_z c27
        refine lv_ldc hx hb hown (hts _ q1049) dX7_becomes_30 ?_
        exact s_iret cf hr hlk (as_, pl) hw (by unfold R_becomes; rw [if_neg (by grind)]) (Nat.le_of_ble_eq_true rfl) (Nat.le_of_ble_eq_true rfl) dX7_becomes_32 hQ
set_option maxRecDepth 100000 in
set_option maxHeartbeats 4000000 in
theorem m_ears {l : Launch} {g : GG} {a : Nat} {ad : Nat → Nat} {fs : List Value} (hf : MF ad fs) {d as_ cdf kf sf pl : DD} {ft : TXC} (hT : TxOK d kf sf cdf 0 ft) {n : Nat} (hn : d 0 = nI n) (hn10 : n ≤ 10) {ni : Nat} (hni : d 1 = nI ni) (hni9 : ni ≤ 9999) (x v : Int32) : Ct l g yX7_ears cX7_ears 5 (Option.some Jvm.ClassFile.FieldType.int) 7 0 0 [.ref a, .int x, .int v] [bO a 7 fs, bI g (ad 0) 60 d, bI g (ad 2) 60 as_, bI g (ad 5) 1344 cdf, bI g (ad 6) 14 kf, bI g (ad 7) 14 sf, bI g (ad 9) 96 pl] (QI g (fun r (_ : DD × DD) => r = R_ears ft d x v) (fun u => [bO a 7 fs, bI g (ad 0) 60 d, bI g (ad 2) 60 u.1, bI g (ad 5) 1344 cdf, bI g (ad 6) 14 kf, bI g (ad 7) 14 sf, bI g (ad 9) 96 u.2])) := by
  refine Ct.of (by decide) rfl ?_
  intro p e s m args below meth c A H locs ls Qf cf hr hlk hnm hQ hw hl
  have hx := cf.1
  have hb := cf.2.1
  have hml := cf.2.2.1
  have hown := cf.2.2.2.1
  have hts := cf.2.2.2.2
  have hw : WD g A s H locs [bO a 7 fs, bI g (ad 0) 60 d, bI g (ad 2) 60 as_, bI g (ad 5) 1344 cdf, bI g (ad 6) 14 kf, bI g (ad 7) 14 sf, bI g (ad 9) 96 pl] := hw
  have hl : lv_has ls 5 [(0, .ref a), (1, .int x), (2, .int v)] := hl
  refine lv_iload_n hx hb dX7_ears_0 rfl (lv_at hl 1 rfl) ?_
  refine lv_i2l (v := (x : Int32).toInt64) hx hb dX7_ears_1 rfl ?_
  refine lv_lconst (v := (0 : Int32).toInt64) hx hb dX7_ears_2 (by decide) ?_
  refine lv_ldc2 hx hb hown (hts _ q1228) dX7_ears_3 ?_
  refine lv_toplr (y := (60 : Int32).toInt64) (by decide) ?_
  refine s_calli (runS cf (m_in (x : Int32) (0 : Int32) (60 : Int32)) hw [] (by decide) rfl km_X7_in ks_X7_in q1045 rfl rfl hl.1 rfl dX7_ears_6) hw [] (by decide) rfl (fun _ => rfl) (fun r_3 u_1 H locs hp_2 hw => ?_)
  have hw : WD g A s H locs [bO a 7 fs, bI g (ad 0) 60 d, bI g (ad 2) 60 as_, bI g (ad 5) 1344 cdf, bI g (ad 6) 14 kf, bI g (ad 7) 14 sf, bI g (ad 9) 96 pl] := hw
  subst hp_2
  refine lv_if_eq (tgt := 24) hx hb dX7_ears_9 (by decide) (fun c9 => ?_) (fun c9 => ?_)
  · have c9 := b01_z c9
    refine lv_ldc hx hb hown (hts _ q1049) dX7_ears_24 ?_
    exact s_iret cf hr hlk (as_, pl) hw (by unfold R_ears; rw [if_neg (by grind)]) (Nat.le_of_ble_eq_true rfl) (Nat.le_of_ble_eq_true rfl) dX7_ears_26 hQ
  · have c9 := b01_n c9
    refine lv_iload_n hx hb dX7_ears_12 rfl (lv_at hl 2 rfl) ?_
    refine lv_i2l (v := (v : Int32).toInt64) hx hb dX7_ears_13 rfl ?_
    refine lv_lconst (v := (0 : Int32).toInt64) hx hb dX7_ears_14 (by decide) ?_
    refine lv_ldc2 hx hb hown (hts _ q1238) dX7_ears_15 ?_
    refine lv_toplr (y := (99999 : Int32).toInt64) (by decide) ?_
    refine s_calli (runS cf (m_in (v : Int32) (0 : Int32) (99999 : Int32)) hw [] (by decide) rfl km_X7_in ks_X7_in q1045 rfl rfl hl.1 rfl dX7_ears_18) hw [] (by decide) rfl (fun _ => rfl) (fun r_6 u_4 H locs hp_5 hw => ?_)
    have hw : WD g A s H locs [bO a 7 fs, bI g (ad 0) 60 d, bI g (ad 2) 60 as_, bI g (ad 5) 1344 cdf, bI g (ad 6) 14 kf, bI g (ad 7) 14 sf, bI g (ad 9) 96 pl] := hw
    subst hp_5
    refine lv_if_ne (tgt := 27) hx hb dX7_ears_21 (by decide) (fun c21 => ?_) (fun c21 => ?_)
    · have c21 := b01_n c21
      have hok : (0 ≤ x ∧ x ≤ 60) ∧ (0 ≤ v ∧ v ≤ 99999) := by grind
      obtain ⟨k, hk, hkx⟩ := rng_nat (m := 60) (by omega) (hok.1.1) hok.1.2
      subst hkx
      refine lv_aload_n hx hb dX7_ears_27 rfl (lv_at hl 0 rfl) ?_
      refine s_get (v := .ref (ad 0)) fb7 cf hw 0 rfl 0 rfl q921 (hf.2 0 rfl) dX7_ears_28 ?_
      refine lv_aload_n hx hb dX7_ears_31 rfl (lv_at hl 0 rfl) ?_
      refine s_get (v := .ref (ad 2)) fb7 cf hw 0 rfl 2 rfl q923 (hf.2 2 rfl) dX7_ears_32 ?_
      refine s_callv (runS cf (m_copies (x := ad 0) (y := ad 2) (f := d) (t := as_)) hw [1, 2] (by decide) rfl km_X7_copies ks_X7_copies q1203 rfl rfl hl.1 rfl dX7_ears_35) hw [1, 2] (by decide) rfl (fun _ => rfl) (fun u_7 H locs hp_8 hw => ?_)
      have hw : WD g A s H locs [bO a 7 fs, bI g (ad 0) 60 d, bI g (ad 2) 60 d, bI g (ad 5) 1344 cdf, bI g (ad 6) 14 kf, bI g (ad 7) 14 sf, bI g (ad 9) 96 pl] := hw
      refine lv_ldc hx hb hown (hts _ q1198) dX7_ears_38 ?_
      refine lv_istore_n (lv' := [(3, .int (-1000000005)), (0, .ref a), (1, .int (nI k)), (2, .int v)]) hx hb dX7_ears_40 rfl hl (by decide) rfl (fun ls hl => ?_)
      refine lv_bipush (v := 99) hx hb dX7_ears_41 (by decide) ?_
      refine lv_istore (lv' := [(4, .int 99), (3, .int (-1000000005)), (0, .ref a), (1, .int (nI k)), (2, .int v)]) hx hb dX7_ears_43 hl (by decide) rfl (fun ls hl => ?_)
      have L45 : ∀ (fu : Nat) (i : Nat) (pl : DD), (i ≤ 100) → (100 < i + fu) → ∀ (H : Heap) (locs : List Loc) (ls : Array Slot), WD g A s H locs [bO a 7 fs, bI g (ad 0) 60 d, bI g (ad 2) 60 d, bI g (ad 5) 1344 cdf, bI g (ad 6) 14 kf, bI g (ad 7) 14 sf, bI g (ad 9) 96 pl] → lv_has ls 5 [(0, .ref a), (1, .int (nI k)), (2, .int v), (3, .int (earB ft d k v i)), (4, .int (nI (100 - i) - 1))] → W p l e (rmx 7 0 0) s m args below meth c H locs 0 0 Qf (F0 m 45 ls []) := by
        intro fu
        induction fu with
        | zero => intro i pl hi hfu; exfalso; omega
        | succ fu ih45 =>
          intro i pl hi hfu H locs ls hw hl
          refine lv_iload hx hb dX7_ears_45 (lv_at hl 4 rfl) ?_
          refine lv_if_lt (tgt := 98) hx hb dX7_ears_47 (by decide) (fun c47 => ?_) (fun c47 => ?_)
          · have hi2 : i = 100 := by have := nI_m1_neg (by omega) c47; omega
            subst hi2
            refine lv_iload_n hx hb dX7_ears_98 rfl (lv_at hl 3 rfl) ?_
            exact s_iret cf hr hlk (d, pl) hw (by unfold R_ears; rw [if_pos hok, nI_clamp (by omega)]) (Nat.le_of_ble_eq_true rfl) (Nat.le_of_ble_eq_true rfl) dX7_ears_99 hQ
          · have hlt : i < 100 := by obtain ⟨z, hz⟩ := nI_m1_nn c47; omega
            have he : nI (99 - i) = nI (100 - i) - 1 := by rw [show 100 - i = (99 - i) + 1 by omega, nI_pred]
            have hl : lv_has ls 5 [(0, .ref a), (1, .int (nI k)), (2, .int v), (3, .int (earB ft d k v i)), (4, .int (nI (99 - i)))] := by rw [he]; exact hl
            have hu0 : (upd d 2 (nI (99 - i))) 0 = nI n := by rw [upd_ne (by omega)]; exact hn
            have hu1 : (upd d 2 (nI (99 - i))) 1 = nI ni := by rw [upd_ne (by omega)]; exact hni
            have huT : TxOK (upd d 2 (nI (99 - i))) kf sf cdf 0 ft := hT.of (upd_ne (by omega))
            refine lv_aload_n hx hb dX7_ears_50 rfl (lv_at hl 0 rfl) ?_
            refine s_get (v := .ref (ad 0)) fb7 cf hw 0 rfl 0 rfl q921 (hf.2 0 rfl) dX7_ears_51 ?_
            refine lv_iconst (v := 2) hx hb dX7_ears_54 (by decide) ?_
            refine lv_iload hx hb dX7_ears_55 (lv_at hl 4 rfl) ?_
            refine s_iast (j := 2) cf hw 1 rfl (rfl) (by decide) rfl dX7_ears_57 (fun H locs hw => ?_)
            have hw : WD g A s H locs [bO a 7 fs, bI g (ad 0) 60 (upd d 2 (nI (99 - i))), bI g (ad 2) 60 d, bI g (ad 5) 1344 cdf, bI g (ad 6) 14 kf, bI g (ad 7) 14 sf, bI g (ad 9) 96 pl] := hw
            refine lv_aload_n hx hb dX7_ears_58 rfl (lv_at hl 0 rfl) ?_
            refine lv_iload_n hx hb dX7_ears_59 rfl (lv_at hl 1 rfl) ?_
            refine s_callv (runV cf (m_nightsGo (d := upd d 2 (nI (99 - i))) (cdf := cdf) (kf := kf) (sf := sf) (pl := pl) (ft := ft) hf huT (n := n) hu0 hn10 (ni := ni) hu1 k (by omega)) hw [0, 1, 3, 4, 5, 6] (by decide) rfl km_X7_nightsGo ki_X7_nightsGo q1174 (run_recv (ci := 7) (T := TX7) (N := 39) hw 0 rfl rfl) rfl rfl hl.1 rfl dX7_ears_60) hw [0, 1, 3, 4, 5, 6] (by decide) rfl (fun _ => rfl) (fun u_9 H locs hp_10 hw => ?_)
            have hw : WD g A s H locs [bO a 7 fs, bI g (ad 0) 60 (nightsF ft k (upd d 2 (nI (99 - i)))), bI g (ad 2) 60 d, bI g (ad 5) 1344 cdf, bI g (ad 6) 14 kf, bI g (ad 7) 14 sf, bI g (ad 9) 96 u_9] := hw
            refine lv_aload_n hx hb dX7_ears_63 rfl (lv_at hl 0 rfl) ?_
            refine s_get (v := .ref (ad 0)) fb7 cf hw 0 rfl 0 rfl q921 (hf.2 0 rfl) dX7_ears_64 ?_
            refine lv_bipush (v := 6) hx hb dX7_ears_67 (by decide) ?_
            refine s_iald (j := 6) cf hw 1 rfl (rfl) (by decide) rfl dX7_ears_69 ?_
            refine lv_iload_n hx hb dX7_ears_70 rfl (lv_at hl 2 rfl) ?_
            refine lv_icmp_gt (tgt := 79) hx hb dX7_ears_71 (by decide) (fun c71 => ?_) (fun c71 => ?_)
            · refine lv_iload_n hx hb dX7_ears_79 rfl (lv_at hl 3 rfl) ?_
              refine lv_topr (y := earB ft d k v (i + 1)) (by show _ = (if earC ft d k (99 - i) ≤ v then nI (99 - i) else earB ft d k v i); grind [earC]) ?_
              refine lv_istore_n (lv' := [(3, .int (earB ft d k v (i + 1))), (0, .ref a), (1, .int (nI k)), (2, .int v), (4, .int (nI (99 - i)))]) hx hb dX7_ears_80 rfl hl (by decide) rfl (fun ls hl => ?_)
              refine lv_aload_n hx hb dX7_ears_81 rfl (lv_at hl 1 rfl) ?_
              refine s_get (v := .ref (ad 2)) fb7 cf hw 0 rfl 2 rfl q923 (hf.2 2 rfl) dX7_ears_82 ?_
              refine lv_aload_n hx hb dX7_ears_85 rfl (lv_at hl 1 rfl) ?_
              refine s_get (v := .ref (ad 0)) fb7 cf hw 0 rfl 0 rfl q921 (hf.2 0 rfl) dX7_ears_86 ?_
              refine s_callv (runS cf (m_copies (x := ad 2) (y := ad 0) (f := d) (t := nightsF ft k (upd d 2 (nI (99 - i))))) hw [2, 1] (by decide) rfl km_X7_copies ks_X7_copies q1203 rfl rfl hl.1 rfl dX7_ears_89) hw [2, 1] (by decide) rfl (fun _ => rfl) (fun u_11 H locs hp_12 hw => ?_)
              have hw : WD g A s H locs [bO a 7 fs, bI g (ad 0) 60 d, bI g (ad 2) 60 d, bI g (ad 5) 1344 cdf, bI g (ad 6) 14 kf, bI g (ad 7) 14 sf, bI g (ad 9) 96 u_9] := hw
              refine lv_iinc (v := nI (100 - (i + 1)) - 1) (lv' := [(4, .int (nI (100 - (i + 1)) - 1)), (3, .int (earB ft d k v (i + 1))), (0, .ref a), (1, .int (nI k)), (2, .int v)]) hx hb dX7_ears_92 hl (k := 4) rfl (by rw [show 100 - (i + 1) = 99 - i by omega]; exact add_m1 _) (by decide) rfl (fun ls hl => ?_)
              refine lv_goto (tgt := 45) hx hb dX7_ears_95 (by decide) ?_
              exact ih45 (i + 1) u_9 (by omega) (by omega) _ _ _ hw (lv_sub hl [2, 3, 4, 1, 0] rfl)
            · refine lv_iload hx hb dX7_ears_74 (lv_at hl 4 rfl) ?_
              refine lv_goto (tgt := 80) hx hb dX7_ears_76 (by decide) ?_
              refine lv_topr (y := earB ft d k v (i + 1)) (by show _ = (if earC ft d k (99 - i) ≤ v then nI (99 - i) else earB ft d k v i); grind [earC]) ?_
              refine lv_istore_n (lv' := [(3, .int (earB ft d k v (i + 1))), (0, .ref a), (1, .int (nI k)), (2, .int v), (4, .int (nI (99 - i)))]) hx hb dX7_ears_80 rfl hl (by decide) rfl (fun ls hl => ?_)
              refine lv_aload_n hx hb dX7_ears_81 rfl (lv_at hl 1 rfl) ?_
              refine s_get (v := .ref (ad 2)) fb7 cf hw 0 rfl 2 rfl q923 (hf.2 2 rfl) dX7_ears_82 ?_
              refine lv_aload_n hx hb dX7_ears_85 rfl (lv_at hl 1 rfl) ?_
              refine s_get (v := .ref (ad 0)) fb7 cf hw 0 rfl 0 rfl q921 (hf.2 0 rfl) dX7_ears_86 ?_
              refine s_callv (runS cf (m_copies (x := ad 2) (y := ad 0) (f := d) (t := nightsF ft k (upd d 2 (nI (99 - i))))) hw [2, 1] (by decide) rfl km_X7_copies ks_X7_copies q1203 rfl rfl hl.1 rfl dX7_ears_89) hw [2, 1] (by decide) rfl (fun _ => rfl) (fun u_13 H locs hp_14 hw => ?_)
              have hw : WD g A s H locs [bO a 7 fs, bI g (ad 0) 60 d, bI g (ad 2) 60 d, bI g (ad 5) 1344 cdf, bI g (ad 6) 14 kf, bI g (ad 7) 14 sf, bI g (ad 9) 96 u_9] := hw
              refine lv_iinc (v := nI (100 - (i + 1)) - 1) (lv' := [(4, .int (nI (100 - (i + 1)) - 1)), (3, .int (earB ft d k v (i + 1))), (0, .ref a), (1, .int (nI k)), (2, .int v)]) hx hb dX7_ears_92 hl (k := 4) rfl (by rw [show 100 - (i + 1) = 99 - i by omega]; exact add_m1 _) (by decide) rfl (fun ls hl => ?_)
              refine lv_goto (tgt := 45) hx hb dX7_ears_95 (by decide) ?_
              exact ih45 (i + 1) u_9 (by omega) (by omega) _ _ _ hw (lv_sub hl [2, 3, 4, 1, 0] rfl)
      exact L45 101 0 pl (by omega) (by omega) _ _ _ hw (lv_sub hl [2, 3, 4, 1, 0] rfl)
    · have c21 := b01_z c21
      refine lv_ldc hx hb hown (hts _ q1049) dX7_ears_24 ?_
      exact s_iret cf hr hlk (as_, pl) hw (by unfold R_ears; rw [if_neg (by grind)]) (Nat.le_of_ble_eq_true rfl) (Nat.le_of_ble_eq_true rfl) dX7_ears_26 hQ
