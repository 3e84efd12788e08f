set_option maxRecDepth 100000 in
set_option maxHeartbeats 4000000 in
theorem m_pour {l : Launch} {g : GG} {a : Nat} {ad : Nat → Nat} {fs : List Value} (hf : MF ad fs) {d : DD} {n : Nat} (hn : d 0 = nI n) (hn10 : n ≤ 10) {so sz nu isn : DD} (hsz : SzOK sz) (x : Int32) : Ct l g yX7_pour cX7_pour 6 (Option.some Jvm.ClassFile.FieldType.int) 2 0 0 [.ref a, .int x] [bO a 7 fs, bI g (ad 0) 60 d, bI g (ad 24) 4 so, bI g (ad 25) 4 sz, bI g (ad 26) 96 nu, bZ g (ad 27) 96 isn] (QI g (fun r (_ : Unit) => r = R_pour d so sz nu isn x) (fun _ => [bO a 7 fs, bI g (ad 0) 60 (D_pour d so sz nu isn x), bI g (ad 24) 4 so, bI g (ad 25) 4 sz, bI g (ad 26) 96 nu, bZ g (ad 27) 96 isn])) := by
  refine Ct.of (by decide) rfl ?_
  intro p e s m args below meth c A H locs ls Qf cf hr hlk hnm hQ hw hl
  have hx := cf.1
  have hb := cf.2.1
  have hml := cf.2.2.1
  have hown := cf.2.2.2.1
  have hts := cf.2.2.2.2
  have hw : WD g A s H locs [bO a 7 fs, bI g (ad 0) 60 d, bI g (ad 24) 4 so, bI g (ad 25) 4 sz, bI g (ad 26) 96 nu, bZ g (ad 27) 96 isn] := hw
  have hl : lv_has ls 6 [(0, .ref a), (1, .int x)] := hl
  refine lv_iload_n hx hb dX7_pour_0 rfl (lv_at hl 1 rfl) ?_
  refine s_calli (runS cf (m_isSheet x) hw [] (by decide) rfl km_X7_isSheet ks_X7_isSheet q1243 rfl rfl hl.1 rfl dX7_pour_1) hw [] (by decide) rfl (fun _ => rfl) (fun r_3 u_1 H locs hp_2 hw => ?_)
  have hw : WD g A s H locs [bO a 7 fs, bI g (ad 0) 60 d, bI g (ad 24) 4 so, bI g (ad 25) 4 sz, bI g (ad 26) 96 nu, bZ g (ad 27) 96 isn] := hw
  subst hp_2
  refine lv_if_ne (tgt := 10) hx hb dX7_pour_4 (by decide) (fun c4 => ?_) (fun c4 => ?_)
  · have c4 := b01_n c4
    obtain ⟨k, hk, hkx⟩ := rng_nat (m := 3) (by omega) c4.1 c4.2
    subst hkx
    have hclk : (nI k).toNatClampNeg = k := nI_clamp (by omega)
    refine lv_aload_n hx hb dX7_pour_10 rfl (lv_at hl 0 rfl) ?_
    refine s_get (v := .ref (ad 24)) fb7 cf hw 0 rfl 24 rfl q945 (hf.2 24 rfl) dX7_pour_11 ?_
    refine lv_iload_n hx hb dX7_pour_14 rfl (lv_at hl 1 rfl) ?_
    refine s_iald (j := k) cf hw 2 rfl (rfl) (by omega) rfl dX7_pour_15 ?_
    refine lv_if_ge (tgt := 22) hx hb dX7_pour_16 (by decide) (fun c16 => ?_) (fun c16 => ?_)
    · obtain ⟨mm, hm24, hm⟩ := hsz k (by omega)
      refine lv_iconst (v := 0) hx hb dX7_pour_22 (by decide) ?_
      refine lv_istore_n (lv' := [(2, .int 0), (0, .ref a), (1, .int (nI k))]) hx hb dX7_pour_23 rfl hl (by decide) rfl (fun ls hl => ?_)
      refine lv_iconst (v := 0) hx hb dX7_pour_24 (by decide) ?_
      refine lv_istore_n (lv' := [(3, .int 0), (2, .int 0), (0, .ref a), (1, .int (nI k))]) hx hb dX7_pour_25 rfl hl (by decide) rfl (fun ls hl => ?_)
      have L26 : ∀ (fu : Nat) (i : Nat), (i ≤ n) → (i ≤ mm) → (n < i + fu) → ∀ (H : Heap) (locs : List Loc) (ls : Array Slot), WD g A s H locs [bO a 7 fs, bI g (ad 0) 60 ((pourF nu isn (24 * k) i d).1), bI g (ad 24) 4 so, bI g (ad 25) 4 sz, bI g (ad 26) 96 nu, bZ g (ad 27) 96 isn] → lv_has ls 6 [(0, .ref a), (1, .int (nI k)), (2, .int ((pourF nu isn (24 * k) i d).2)), (3, .int (nI i))] → W p l e (rmx 2 0 0) s m args below meth c H locs 0 0 Qf (F0 m 26 ls []) := by
        intro fu
        induction fu with
        | zero => intro i hi hi5 hfu; exfalso; omega
        | succ fu ih26 =>
          intro i hi hi5 hfu H locs ls hw hl
          refine lv_iload_n hx hb dX7_pour_26 rfl (lv_at hl 3 rfl) ?_
          refine lv_aload_n hx hb dX7_pour_27 rfl (lv_at hl 0 rfl) ?_
          refine s_get (v := .ref (ad 0)) fb7 cf hw 0 rfl 0 rfl q921 (hf.2 0 rfl) dX7_pour_28 ?_
          refine lv_iconst (v := 0) hx hb dX7_pour_31 (by decide) ?_
          refine s_iald (j := 0) cf hw 1 rfl (rfl) (by decide) rfl dX7_pour_32 ?_
          refine lv_icmp_ge (tgt := 121) hx hb dX7_pour_33 (by decide) (fun c33 => ?_) (fun c33 => ?_)
          · have hi2 : n ≤ i := by rw [pourF_lo (by omega), hn] at c33; exact nI_le_of (by omega) c33 (by omega)
            have hpn : pourN d sz k = i := by unfold pourN; rw [nH_of hn hn10, hm, nI_clamp (by omega)]; omega
            refine lv_iload_n hx hb dX7_pour_121 rfl (lv_at hl 2 rfl) ?_
            exact s_iret cf hr hlk () (by rw [show D_pour d so sz nu isn (nI k) = (pourF nu isn (24 * k) i d).1 from (if_pos c4).trans (by rw [hclk, if_neg (Int32.not_lt.mpr c16), hpn])]; exact hw) (by unfold R_pour; rw [if_pos c4, hclk, if_neg (Int32.not_lt.mpr c16), hpn]) (Nat.le_of_ble_eq_true rfl) (Nat.le_of_ble_eq_true rfl) dX7_pour_122 hQ
          · have hlt : i < n := by rw [pourF_lo (by omega), hn] at c33; exact nI_lt_of (by omega) c33 (by omega)
            refine lv_iload_n hx hb dX7_pour_36 rfl (lv_at hl 3 rfl) ?_
            refine lv_aload_n hx hb dX7_pour_37 rfl (lv_at hl 0 rfl) ?_
            refine s_get (v := .ref (ad 25)) fb7 cf hw 0 rfl 25 rfl q946 (hf.2 25 rfl) dX7_pour_38 ?_
            refine lv_iload_n hx hb dX7_pour_41 rfl (lv_at hl 1 rfl) ?_
            refine s_iald (j := k) cf hw 3 rfl (rfl) (by omega) rfl dX7_pour_42 ?_
            refine lv_icmp_ge (tgt := 121) hx hb dX7_pour_43 (by decide) (fun c43 => ?_) (fun c43 => ?_)
            · have hi3 : mm ≤ i := by rw [hm] at c43; exact nI_le_of (by omega) c43 (by omega)
              have hpn : pourN d sz k = i := by unfold pourN; rw [nH_of hn hn10, hm, nI_clamp (by omega)]; omega
              refine lv_iload_n hx hb dX7_pour_121 rfl (lv_at hl 2 rfl) ?_
              exact s_iret cf hr hlk () (by rw [show D_pour d so sz nu isn (nI k) = (pourF nu isn (24 * k) i d).1 from (if_pos c4).trans (by rw [hclk, if_neg (Int32.not_lt.mpr c16), hpn])]; exact hw) (by unfold R_pour; rw [if_pos c4, hclk, if_neg (Int32.not_lt.mpr c16), hpn]) (Nat.le_of_ble_eq_true rfl) (Nat.le_of_ble_eq_true rfl) dX7_pour_122 hQ
            · have hlt2 : i < mm := by rw [hm] at c43; exact nI_lt_of (by omega) c43 (by omega)
              refine lv_aload_n hx hb dX7_pour_46 rfl (lv_at hl 0 rfl) ?_
              refine lv_iload_n hx hb dX7_pour_47 rfl (lv_at hl 3 rfl) ?_
              refine lv_iconst (v := 2) hx hb dX7_pour_48 (by decide) ?_
              refine s_calli (runV cf (m_of (d := (pourF nu isn (24 * k) i d).1) hf i 2 (by omega)) hw [0, 1] (by decide) rfl km_X7_of ki_X7_of q1076 (run_recv (ci := 7) (T := TX7) (N := 39) hw 0 rfl rfl) rfl rfl hl.1 rfl dX7_pour_49) hw [0, 1] (by decide) rfl (fun _ => rfl) (fun r_6 u_4 H locs hp_5 hw => ?_)
              have hw : WD g A s H locs [bO a 7 fs, bI g (ad 0) 60 ((pourF nu isn (24 * k) i d).1), bI g (ad 24) 4 so, bI g (ad 25) 4 sz, bI g (ad 26) 96 nu, bZ g (ad 27) 96 isn] := hw
              subst hp_5
              refine lv_istore (lv' := [(4, .int (((pourF nu isn (24 * k) i d).1) (10 + 5 * i + 2))), (0, .ref a), (1, .int (nI k)), (2, .int ((pourF nu isn (24 * k) i d).2)), (3, .int (nI i))]) hx hb dX7_pour_52 hl (by decide) rfl (fun ls hl => ?_)
              refine lv_aload_n hx hb dX7_pour_54 rfl (lv_at hl 1 rfl) ?_
              refine s_get (v := .ref (ad 27)) fb7 cf hw 0 rfl 27 rfl q948 (hf.2 27 rfl) dX7_pour_55 ?_
              refine lv_bipush (v := 24) hx hb dX7_pour_58 (by decide) ?_
              refine lv_iload_n hx hb dX7_pour_60 rfl (lv_at hl 2 rfl) ?_
              refine lv_imul hx hb dX7_pour_61 ?_
              refine lv_iload_n hx hb dX7_pour_62 rfl (lv_at hl 4 rfl) ?_
              refine lv_iadd hx hb dX7_pour_63 ?_
              refine s_zald (j := (24 * k + i)) cf hw 5 rfl (ix24 k i) (by omega) rfl dX7_pour_64 ?_
              refine lv_if_eq (tgt := 88) hx hb dX7_pour_65 (by decide) (fun c65 => ?_) (fun c65 => ?_)
              · refine lv_iload hx hb dX7_pour_88 (lv_at hl 0 rfl) ?_
                refine lv_topr (y := pourV nu isn (24 * k) i (pourF nu isn (24 * k) i d).1) (by unfold pourV; grind) ?_
                refine lv_istore (lv' := [(5, .int (pourV nu isn (24 * k) i (pourF nu isn (24 * k) i d).1)), (4, .int (((pourF nu isn (24 * k) i d).1) (10 + 5 * i + 2))), (0, .ref a), (1, .int (nI k)), (2, .int ((pourF nu isn (24 * k) i d).2)), (3, .int (nI i))]) hx hb dX7_pour_90 hl (by decide) rfl (fun ls hl => ?_)
                refine lv_aload_n hx hb dX7_pour_92 rfl (lv_at hl 2 rfl) ?_
                refine lv_iload_n hx hb dX7_pour_93 rfl (lv_at hl 5 rfl) ?_
                refine lv_iconst (v := 2) hx hb dX7_pour_94 (by decide) ?_
                refine lv_iload hx hb dX7_pour_95 (lv_at hl 0 rfl) ?_
                refine s_callv (runV cf (m_sets (d := (pourF nu isn (24 * k) i d).1) hf i 2 (pourV nu isn (24 * k) i (pourF nu isn (24 * k) i d).1) (by omega)) hw [0, 1] (by decide) rfl km_X7_sets ki_X7_sets q1051 (run_recv (ci := 7) (T := TX7) (N := 39) hw 0 rfl rfl) rfl rfl hl.1 rfl dX7_pour_97) hw [0, 1] (by decide) rfl (fun _ => rfl) (fun u_7 H locs hp_8 hw => ?_)
                have hw : WD g A s H locs [bO a 7 fs, bI g (ad 0) 60 (upd ((pourF nu isn (24 * k) i d).1) (10 + 5 * i + 2) (pourV nu isn (24 * k) i (pourF nu isn (24 * k) i d).1)), bI g (ad 24) 4 so, bI g (ad 25) 4 sz, bI g (ad 26) 96 nu, bZ g (ad 27) 96 isn] := hw
                refine lv_iload_n hx hb dX7_pour_100 rfl (lv_at hl 4 rfl) ?_
                refine lv_iload hx hb dX7_pour_101 (lv_at hl 0 rfl) ?_
                refine lv_iload hx hb dX7_pour_103 (lv_at hl 1 rfl) ?_
                refine lv_icmp_eq (tgt := 112) hx hb dX7_pour_105 (by decide) (fun c105 => ?_) (fun c105 => ?_)
                · refine lv_iconst (v := 0) hx hb dX7_pour_112 (by decide) ?_
                  refine lv_topr (y := if pourV nu isn (24 * k) i (pourF nu isn (24 * k) i d).1 = (pourF nu isn (24 * k) i d).1 (10 + 5 * i + 2) then 0 else 1) (by grind) ?_
                  refine lv_iadd hx hb dX7_pour_113 ?_
                  refine lv_istore_n (lv' := [(2, .int (((pourF nu isn (24 * k) i d).2) + (if pourV nu isn (24 * k) i (pourF nu isn (24 * k) i d).1 = (pourF nu isn (24 * k) i d).1 (10 + 5 * i + 2) then 0 else 1))), (5, .int (pourV nu isn (24 * k) i (pourF nu isn (24 * k) i d).1)), (4, .int (((pourF nu isn (24 * k) i d).1) (10 + 5 * i + 2))), (0, .ref a), (1, .int (nI k)), (3, .int (nI i))]) hx hb dX7_pour_114 rfl hl (by decide) rfl (fun ls hl => ?_)
                  refine lv_iinc (v := nI (i + 1)) (lv' := [(3, .int (nI (i + 1))), (2, .int (((pourF nu isn (24 * k) i d).2) + (if pourV nu isn (24 * k) i (pourF nu isn (24 * k) i d).1 = (pourF nu isn (24 * k) i d).1 (10 + 5 * i + 2) then 0 else 1))), (5, .int (pourV nu isn (24 * k) i (pourF nu isn (24 * k) i d).1)), (4, .int (((pourF nu isn (24 * k) i d).1) (10 + 5 * i + 2))), (0, .ref a), (1, .int (nI k))]) hx hb dX7_pour_115 hl (k := 5) rfl (nI_1 i) (by decide) rfl (fun ls hl => ?_)
                  refine lv_goto (tgt := 26) hx hb dX7_pour_118 (by decide) ?_
                  exact ih26 (i + 1) (by omega) (by omega) (by omega) _ _ _ hw (lv_sub hl [4, 5, 1, 0] rfl)
                · refine lv_iconst (v := 1) hx hb dX7_pour_108 (by decide) ?_
                  refine lv_goto (tgt := 113) hx hb dX7_pour_109 (by decide) ?_
                  refine lv_topr (y := if pourV nu isn (24 * k) i (pourF nu isn (24 * k) i d).1 = (pourF nu isn (24 * k) i d).1 (10 + 5 * i + 2) then 0 else 1) (by grind) ?_
                  refine lv_iadd hx hb dX7_pour_113 ?_
                  refine lv_istore_n (lv' := [(2, .int (((pourF nu isn (24 * k) i d).2) + (if pourV nu isn (24 * k) i (pourF nu isn (24 * k) i d).1 = (pourF nu isn (24 * k) i d).1 (10 + 5 * i + 2) then 0 else 1))), (5, .int (pourV nu isn (24 * k) i (pourF nu isn (24 * k) i d).1)), (4, .int (((pourF nu isn (24 * k) i d).1) (10 + 5 * i + 2))), (0, .ref a), (1, .int (nI k)), (3, .int (nI i))]) hx hb dX7_pour_114 rfl hl (by decide) rfl (fun ls hl => ?_)
                  refine lv_iinc (v := nI (i + 1)) (lv' := [(3, .int (nI (i + 1))), (2, .int (((pourF nu isn (24 * k) i d).2) + (if pourV nu isn (24 * k) i (pourF nu isn (24 * k) i d).1 = (pourF nu isn (24 * k) i d).1 (10 + 5 * i + 2) then 0 else 1))), (5, .int (pourV nu isn (24 * k) i (pourF nu isn (24 * k) i d).1)), (4, .int (((pourF nu isn (24 * k) i d).1) (10 + 5 * i + 2))), (0, .ref a), (1, .int (nI k))]) hx hb dX7_pour_115 hl (k := 5) rfl (nI_1 i) (by decide) rfl (fun ls hl => ?_)
                  refine lv_goto (tgt := 26) hx hb dX7_pour_118 (by decide) ?_
                  exact ih26 (i + 1) (by omega) (by omega) (by omega) _ _ _ hw (lv_sub hl [4, 5, 1, 0] rfl)
              · refine lv_aload_n hx hb dX7_pour_68 rfl (lv_at hl 1 rfl) ?_
                refine s_get (v := .ref (ad 26)) fb7 cf hw 0 rfl 26 rfl q947 (hf.2 26 rfl) dX7_pour_69 ?_
                refine lv_bipush (v := 24) hx hb dX7_pour_72 (by decide) ?_
                refine lv_iload_n hx hb dX7_pour_74 rfl (lv_at hl 2 rfl) ?_
                refine lv_imul hx hb dX7_pour_75 ?_
                refine lv_iload_n hx hb dX7_pour_76 rfl (lv_at hl 4 rfl) ?_
                refine lv_iadd hx hb dX7_pour_77 ?_
                refine s_iald (j := (24 * k + i)) cf hw 4 rfl (ix24 k i) (by omega) rfl dX7_pour_78 ?_
                refine lv_iconst (v := 0) hx hb dX7_pour_79 (by decide) ?_
                refine lv_bipush (v := 99) hx hb dX7_pour_80 (by decide) ?_
                refine s_calli (runS cf (m_held (nu (24 * k + i)) 0 99) hw [] (by decide) rfl km_X7_held ks_X7_held q1090 rfl rfl hl.1 rfl dX7_pour_82) hw [] (by decide) rfl (fun _ => rfl) (fun r_11 u_9 H locs hp_10 hw => ?_)
                have hw : WD g A s H locs [bO a 7 fs, bI g (ad 0) 60 ((pourF nu isn (24 * k) i d).1), bI g (ad 24) 4 so, bI g (ad 25) 4 sz, bI g (ad 26) 96 nu, bZ g (ad 27) 96 isn] := hw
                subst hp_10
                refine lv_goto (tgt := 90) hx hb dX7_pour_85 (by decide) ?_
                refine lv_topr (y := pourV nu isn (24 * k) i (pourF nu isn (24 * k) i d).1) (by unfold pourV; grind) ?_
                refine lv_istore (lv' := [(5, .int (pourV nu isn (24 * k) i (pourF nu isn (24 * k) i d).1)), (4, .int (((pourF nu isn (24 * k) i d).1) (10 + 5 * i + 2))), (0, .ref a), (1, .int (nI k)), (2, .int ((pourF nu isn (24 * k) i d).2)), (3, .int (nI i))]) hx hb dX7_pour_90 hl (by decide) rfl (fun ls hl => ?_)
                refine lv_aload_n hx hb dX7_pour_92 rfl (lv_at hl 2 rfl) ?_
                refine lv_iload_n hx hb dX7_pour_93 rfl (lv_at hl 5 rfl) ?_
                refine lv_iconst (v := 2) hx hb dX7_pour_94 (by decide) ?_
                refine lv_iload hx hb dX7_pour_95 (lv_at hl 0 rfl) ?_
                refine s_callv (runV cf (m_sets (d := (pourF nu isn (24 * k) i d).1) hf i 2 (pourV nu isn (24 * k) i (pourF nu isn (24 * k) i d).1) (by omega)) hw [0, 1] (by decide) rfl km_X7_sets ki_X7_sets q1051 (run_recv (ci := 7) (T := TX7) (N := 39) hw 0 rfl rfl) rfl rfl hl.1 rfl dX7_pour_97) hw [0, 1] (by decide) rfl (fun _ => rfl) (fun u_12 H locs hp_13 hw => ?_)
                have hw : WD g A s H locs [bO a 7 fs, bI g (ad 0) 60 (upd ((pourF nu isn (24 * k) i d).1) (10 + 5 * i + 2) (pourV nu isn (24 * k) i (pourF nu isn (24 * k) i d).1)), bI g (ad 24) 4 so, bI g (ad 25) 4 sz, bI g (ad 26) 96 nu, bZ g (ad 27) 96 isn] := hw
                refine lv_iload_n hx hb dX7_pour_100 rfl (lv_at hl 4 rfl) ?_
                refine lv_iload hx hb dX7_pour_101 (lv_at hl 0 rfl) ?_
                refine lv_iload hx hb dX7_pour_103 (lv_at hl 1 rfl) ?_
                refine lv_icmp_eq (tgt := 112) hx hb dX7_pour_105 (by decide) (fun c105 => ?_) (fun c105 => ?_)
                · refine lv_iconst (v := 0) hx hb dX7_pour_112 (by decide) ?_
                  refine lv_topr (y := if pourV nu isn (24 * k) i (pourF nu isn (24 * k) i d).1 = (pourF nu isn (24 * k) i d).1 (10 + 5 * i + 2) then 0 else 1) (by grind) ?_
                  refine lv_iadd hx hb dX7_pour_113 ?_
                  refine lv_istore_n (lv' := [(2, .int (((pourF nu isn (24 * k) i d).2) + (if pourV nu isn (24 * k) i (pourF nu isn (24 * k) i d).1 = (pourF nu isn (24 * k) i d).1 (10 + 5 * i + 2) then 0 else 1))), (5, .int (pourV nu isn (24 * k) i (pourF nu isn (24 * k) i d).1)), (4, .int (((pourF nu isn (24 * k) i d).1) (10 + 5 * i + 2))), (0, .ref a), (1, .int (nI k)), (3, .int (nI i))]) hx hb dX7_pour_114 rfl hl (by decide) rfl (fun ls hl => ?_)
                  refine lv_iinc (v := nI (i + 1)) (lv' := [(3, .int (nI (i + 1))), (2, .int (((pourF nu isn (24 * k) i d).2) + (if pourV nu isn (24 * k) i (pourF nu isn (24 * k) i d).1 = (pourF nu isn (24 * k) i d).1 (10 + 5 * i + 2) then 0 else 1))), (5, .int (pourV nu isn (24 * k) i (pourF nu isn (24 * k) i d).1)), (4, .int (((pourF nu isn (24 * k) i d).1) (10 + 5 * i + 2))), (0, .ref a), (1, .int (nI k))]) hx hb dX7_pour_115 hl (k := 5) rfl (nI_1 i) (by decide) rfl (fun ls hl => ?_)
                  refine lv_goto (tgt := 26) hx hb dX7_pour_118 (by decide) ?_
                  exact ih26 (i + 1) (by omega) (by omega) (by omega) _ _ _ hw (lv_sub hl [4, 5, 1, 0] rfl)
                · refine lv_iconst (v := 1) hx hb dX7_pour_108 (by decide) ?_
                  refine lv_goto (tgt := 113) hx hb dX7_pour_109 (by decide) ?_
                  refine lv_topr (y := if pourV nu isn (24 * k) i (pourF nu isn (24 * k) i d).1 = (pourF nu isn (24 * k) i d).1 (10 + 5 * i + 2) then 0 else 1) (by grind) ?_
                  refine lv_iadd hx hb dX7_pour_113 ?_
                  refine lv_istore_n (lv' := [(2, .int (((pourF nu isn (24 * k) i d).2) + (if pourV nu isn (24 * k) i (pourF nu isn (24 * k) i d).1 = (pourF nu isn (24 * k) i d).1 (10 + 5 * i + 2) then 0 else 1))), (5, .int (pourV nu isn (24 * k) i (pourF nu isn (24 * k) i d).1)), (4, .int (((pourF nu isn (24 * k) i d).1) (10 + 5 * i + 2))), (0, .ref a), (1, .int (nI k)), (3, .int (nI i))]) hx hb dX7_pour_114 rfl hl (by decide) rfl (fun ls hl => ?_)
                  refine lv_iinc (v := nI (i + 1)) (lv' := [(3, .int (nI (i + 1))), (2, .int (((pourF nu isn (24 * k) i d).2) + (if pourV nu isn (24 * k) i (pourF nu isn (24 * k) i d).1 = (pourF nu isn (24 * k) i d).1 (10 + 5 * i + 2) then 0 else 1))), (5, .int (pourV nu isn (24 * k) i (pourF nu isn (24 * k) i d).1)), (4, .int (((pourF nu isn (24 * k) i d).1) (10 + 5 * i + 2))), (0, .ref a), (1, .int (nI k))]) hx hb dX7_pour_115 hl (k := 5) rfl (nI_1 i) (by decide) rfl (fun ls hl => ?_)
                  refine lv_goto (tgt := 26) hx hb dX7_pour_118 (by decide) ?_
                  exact ih26 (i + 1) (by omega) (by omega) (by omega) _ _ _ hw (lv_sub hl [4, 5, 1, 0] rfl)
      exact L26 (n + 1) 0 (by omega) (by omega) (by omega) _ _ _ hw (lv_sub hl [2, 3, 1, 0] rfl)
    · refine lv_ldc hx hb hown (hts _ q1247) dX7_pour_19 ?_
      exact s_iret cf hr hlk () (by rw [show D_pour d so sz nu isn (nI k) = d from (if_pos c4).trans (by rw [hclk]; exact if_pos (Int32.not_le.mp c16))]; exact hw) (by unfold R_pour; rw [if_pos c4, hclk, if_pos (Int32.not_le.mp c16)]) (Nat.le_of_ble_eq_true rfl) (Nat.le_of_ble_eq_true rfl) dX7_pour_21 hQ
  · have c4 := b01_z c4
    refine lv_ldc hx hb hown (hts _ q1049) dX7_pour_7 ?_
    exact s_iret cf hr hlk () (by rw [show D_pour d so sz nu isn x = d from if_neg c4]; exact hw) (by unfold R_pour; rw [if_neg c4]) (Nat.le_of_ble_eq_true rfl) (Nat.le_of_ble_eq_true rfl) dX7_pour_9 hQ
set_option maxRecDepth 100000 in
set_option maxHeartbeats 4000000 in
theorem m_reads {l : Launch} {g : GG} {a : Nat} {ad : Nat → Nat} {fs : List Value} (hf : MF ad fs) {d : DD} {n : Nat} (hn : d 0 = nI n) (hn10 : n ≤ 10) {so sz nu isn : DD} (hsz : SzOK sz) (x : Int32) : Ct l g yX7_reads cX7_reads 3 (Option.some Jvm.ClassFile.FieldType.int) 2 0 0 [.ref a, .int x] [bO a 7 fs, bI g (ad 0) 60 d, bI g (ad 24) 4 so, bI g (ad 25) 4 sz, bI g (ad 26) 96 nu, bZ g (ad 27) 96 isn] (QI g (fun r (_ : Unit) => r = R_reads d so sz nu isn x) (fun _ => [bO a 7 fs, bI g (ad 0) 60 d, bI g (ad 24) 4 so, bI g (ad 25) 4 sz, bI g (ad 26) 96 nu, bZ g (ad 27) 96 isn])) := by
  refine Ct.of (by decide) rfl ?_
  intro p e s m args below meth c A H locs ls Qf cf hr hlk hnm hQ hw hl
  have hx := cf.1
  have hb := cf.2.1
  have hml := cf.2.2.1
  have hown := cf.2.2.2.1
  have hts := cf.2.2.2.2
  have hw : WD g A s H locs [bO a 7 fs, bI g (ad 0) 60 d, bI g (ad 24) 4 so, bI g (ad 25) 4 sz, bI g (ad 26) 96 nu, bZ g (ad 27) 96 isn] := hw
  have hl : lv_has ls 3 [(0, .ref a), (1, .int x)] := hl
  refine lv_iload_n hx hb dX7_reads_0 rfl (lv_at hl 1 rfl) ?_
  refine s_calli (runS cf (m_isSheet x) hw [] (by decide) rfl km_X7_isSheet ks_X7_isSheet q1243 rfl rfl hl.1 rfl dX7_reads_1) hw [] (by decide) rfl (fun _ => rfl) (fun r_3 u_1 H locs hp_2 hw => ?_)
  have hw : WD g A s H locs [bO a 7 fs, bI g (ad 0) 60 d, bI g (ad 24) 4 so, bI g (ad 25) 4 sz, bI g (ad 26) 96 nu, bZ g (ad 27) 96 isn] := hw
  subst hp_2
  refine lv_if_ne (tgt := 10) hx hb dX7_reads_4 (by decide) (fun c4 => ?_) (fun c4 => ?_)
  · have c4 := b01_n c4
    obtain ⟨k, hk, hkx⟩ := rng_nat (m := 3) (by omega) c4.1 c4.2
    subst hkx
    have hclk : (nI k).toNatClampNeg = k := nI_clamp (by omega)
    refine lv_aload_n hx hb dX7_reads_10 rfl (lv_at hl 0 rfl) ?_
    refine s_get (v := .ref (ad 24)) fb7 cf hw 0 rfl 24 rfl q945 (hf.2 24 rfl) dX7_reads_11 ?_
    refine lv_iload_n hx hb dX7_reads_14 rfl (lv_at hl 1 rfl) ?_
    refine s_iald (j := k) cf hw 2 rfl (rfl) (by omega) rfl dX7_reads_15 ?_
    refine lv_if_ge (tgt := 22) hx hb dX7_reads_16 (by decide) (fun c16 => ?_) (fun c16 => ?_)
    · obtain ⟨mm, hm24, hm⟩ := hsz k (by omega)
      refine lv_iconst (v := 0) hx hb dX7_reads_22 (by decide) ?_
      refine lv_istore_n (lv' := [(2, .int 0), (0, .ref a), (1, .int (nI k))]) hx hb dX7_reads_23 rfl hl (by decide) rfl (fun ls hl => ?_)
      have L24 : ∀ (fu : Nat) (i : Nat), (i ≤ mm) → (lst (readP d nu isn (24 * k)) (mm - i) i = readK d nu isn (24 * k) mm) → (mm < i + fu) → ∀ (H : Heap) (locs : List Loc) (ls : Array Slot), WD g A s H locs [bO a 7 fs, bI g (ad 0) 60 d, bI g (ad 24) 4 so, bI g (ad 25) 4 sz, bI g (ad 26) 96 nu, bZ g (ad 27) 96 isn] → lv_has ls 3 [(0, .ref a), (1, .int (nI k)), (2, .int (nI i))] → W p l e (rmx 2 0 0) s m args below meth c H locs 0 0 Qf (F0 m 24 ls []) := by
        intro fu
        induction fu with
        | zero => intro i hi hls hfu; exfalso; omega
        | succ fu ih24 =>
          intro i hi hls hfu H locs ls hw hl
          refine lv_iload_n hx hb dX7_reads_24 rfl (lv_at hl 2 rfl) ?_
          refine lv_aload_n hx hb dX7_reads_25 rfl (lv_at hl 0 rfl) ?_
          refine s_get (v := .ref (ad 25)) fb7 cf hw 0 rfl 25 rfl q946 (hf.2 25 rfl) dX7_reads_26 ?_
          refine lv_iload_n hx hb dX7_reads_29 rfl (lv_at hl 1 rfl) ?_
          refine s_iald (j := k) cf hw 3 rfl (rfl) (by omega) rfl dX7_reads_30 ?_
          refine lv_icmp_ge (tgt := 84) hx hb dX7_reads_31 (by decide) (fun c31 => ?_) (fun c31 => ?_)
          · have hi2 : i = mm := by rw [hm] at c31; have := nI_le_of (by omega) c31 (by omega); omega
            refine lv_ldc hx hb hown (hts _ q1198) dX7_reads_84 ?_
            exact s_iret cf hr hlk () hw (by unfold R_reads; rw [if_pos c4, hclk, if_neg (Int32.not_lt.mpr c16), hm, nI_clamp (by omega)]; rw [if_pos (by rw [← hls, hi2, Nat.sub_self]; rfl)]) (Nat.le_of_ble_eq_true rfl) (Nat.le_of_ble_eq_true rfl) dX7_reads_86 hQ
          · have hlt : i < mm := by rw [hm] at c31; exact nI_lt_of (by omega) c31 (by omega)
            refine lv_aload_n hx hb dX7_reads_34 rfl (lv_at hl 0 rfl) ?_
            refine s_get (v := .ref (ad 27)) fb7 cf hw 0 rfl 27 rfl q948 (hf.2 27 rfl) dX7_reads_35 ?_
            refine lv_bipush (v := 24) hx hb dX7_reads_38 (by decide) ?_
            refine lv_iload_n hx hb dX7_reads_40 rfl (lv_at hl 1 rfl) ?_
            refine lv_imul hx hb dX7_reads_41 ?_
            refine lv_iload_n hx hb dX7_reads_42 rfl (lv_at hl 2 rfl) ?_
            refine lv_iadd hx hb dX7_reads_43 ?_
            refine s_zald (j := (24 * k + i)) cf hw 5 rfl (ix24 k i) (by omega) rfl dX7_reads_44 ?_
            refine lv_if_eq (tgt := 78) hx hb dX7_reads_45 (by decide) (fun c45 => ?_) (fun c45 => ?_)
            · refine lv_iinc (v := nI (i + 1)) (lv' := [(2, .int (nI (i + 1))), (0, .ref a), (1, .int (nI k))]) hx hb dX7_reads_78 hl (k := 2) rfl (nI_1 i) (by decide) rfl (fun ls hl => ?_)
              refine lv_goto (tgt := 24) hx hb dX7_reads_81 (by decide) ?_
              exact ih24 (i + 1) (by omega) (by rw [← hls, show mm - i = (mm - (i + 1)) + 1 by omega]; exact (if_neg (by exact fun z => z.1 c45)).symm) (by omega) _ _ _ hw (lv_sub hl [1, 2, 0] rfl)
            · refine lv_aload_n hx hb dX7_reads_48 rfl (lv_at hl 0 rfl) ?_
              refine lv_iload_n hx hb dX7_reads_49 rfl (lv_at hl 2 rfl) ?_
              refine s_calli (runV cf (m_isHouse (d := d) hf (nI i)) hw [0, 1] (by decide) rfl km_X7_isHouse ki_X7_isHouse q1059 (run_recv (ci := 7) (T := TX7) (N := 39) hw 0 rfl rfl) rfl rfl hl.1 rfl dX7_reads_50) hw [0, 1] (by decide) rfl (fun _ => rfl) (fun r_6 u_4 H locs hp_5 hw => ?_)
              have hw : WD g A s H locs [bO a 7 fs, bI g (ad 0) 60 d, bI g (ad 24) 4 so, bI g (ad 25) 4 sz, bI g (ad 26) 96 nu, bZ g (ad 27) 96 isn] := hw
              subst hp_5
              refine lv_if_eq (tgt := 76) hx hb dX7_reads_53 (by decide) (fun c53 => ?_) (fun c53 => ?_)
              · have c53 := b01_z c53
                refine lv_iload_n hx hb dX7_reads_76 rfl (lv_at hl 2 rfl) ?_
                exact s_iret cf hr hlk () hw (by unfold R_reads; rw [if_pos c4, hclk, if_neg (Int32.not_lt.mpr c16), hm, nI_clamp (by omega)]; have hq : readK d nu isn (24 * k) mm = i := (by rw [← hls]; exact lst_lt _ _ _ ⟨c45, Or.inl c53⟩ (by omega)); rw [hq, if_neg (by omega)]) (Nat.le_of_ble_eq_true rfl) (Nat.le_of_ble_eq_true rfl) dX7_reads_77 hQ
              · have c53 := b01_n c53
                have hin : i < n := by obtain ⟨j, hj, e, -⟩ := isH_nat hn hn10 c53; have := (nI_eq (by omega) (by omega)).mp e; omega
                refine lv_aload_n hx hb dX7_reads_56 rfl (lv_at hl 0 rfl) ?_
                refine s_get (v := .ref (ad 26)) fb7 cf hw 0 rfl 26 rfl q947 (hf.2 26 rfl) dX7_reads_57 ?_
                refine lv_bipush (v := 24) hx hb dX7_reads_60 (by decide) ?_
                refine lv_iload_n hx hb dX7_reads_62 rfl (lv_at hl 1 rfl) ?_
                refine lv_imul hx hb dX7_reads_63 ?_
                refine lv_iload_n hx hb dX7_reads_64 rfl (lv_at hl 2 rfl) ?_
                refine lv_iadd hx hb dX7_reads_65 ?_
                refine s_iald (j := (24 * k + i)) cf hw 4 rfl (ix24 k i) (by omega) rfl dX7_reads_66 ?_
                refine lv_aload_n hx hb dX7_reads_67 rfl (lv_at hl 0 rfl) ?_
                refine lv_iload_n hx hb dX7_reads_68 rfl (lv_at hl 2 rfl) ?_
                refine lv_iconst (v := 1) hx hb dX7_reads_69 (by decide) ?_
                refine s_calli (runV cf (m_of (d := d) hf i 1 (by omega)) hw [0, 1] (by decide) rfl km_X7_of ki_X7_of q1076 (run_recv (ci := 7) (T := TX7) (N := 39) hw 0 rfl rfl) rfl rfl hl.1 rfl dX7_reads_70) hw [0, 1] (by decide) rfl (fun _ => rfl) (fun r_9 u_7 H locs hp_8 hw => ?_)
                have hw : WD g A s H locs [bO a 7 fs, bI g (ad 0) 60 d, bI g (ad 24) 4 so, bI g (ad 25) 4 sz, bI g (ad 26) 96 nu, bZ g (ad 27) 96 isn] := hw
                subst hp_8
                refine lv_icmp_eq (tgt := 78) hx hb dX7_reads_73 (by decide) (fun c73 => ?_) (fun c73 => ?_)
                · refine lv_iinc (v := nI (i + 1)) (lv' := [(2, .int (nI (i + 1))), (0, .ref a), (1, .int (nI k))]) hx hb dX7_reads_78 hl (k := 2) rfl (nI_1 i) (by decide) rfl (fun ls hl => ?_)
                  refine lv_goto (tgt := 24) hx hb dX7_reads_81 (by decide) ?_
                  exact ih24 (i + 1) (by omega) (by rw [← hls, show mm - i = (mm - (i + 1)) + 1 by omega]; exact (if_neg (by exact fun z => z.2.elim (fun q => q c53) (fun q => q c73))).symm) (by omega) _ _ _ hw (lv_sub hl [1, 2, 0] rfl)
                · refine lv_iload_n hx hb dX7_reads_76 rfl (lv_at hl 2 rfl) ?_
                  exact s_iret cf hr hlk () hw (by unfold R_reads; rw [if_pos c4, hclk, if_neg (Int32.not_lt.mpr c16), hm, nI_clamp (by omega)]; have hq : readK d nu isn (24 * k) mm = i := (by rw [← hls]; exact lst_lt _ _ _ ⟨c45, Or.inr c73⟩ (by omega)); rw [hq, if_neg (by omega)]) (Nat.le_of_ble_eq_true rfl) (Nat.le_of_ble_eq_true rfl) dX7_reads_77 hQ
      exact L24 (mm + 1) 0 (by omega) rfl (by omega) _ _ _ hw (lv_sub hl [1, 2, 0] rfl)
    · refine lv_ldc hx hb hown (hts _ q1247) dX7_reads_19 ?_
      exact s_iret cf hr hlk () hw (by unfold R_reads; rw [if_pos c4, hclk, if_pos (Int32.not_le.mp c16)]) (Nat.le_of_ble_eq_true rfl) (Nat.le_of_ble_eq_true rfl) dX7_reads_21 hQ
  · have c4 := b01_z c4
    refine lv_ldc hx hb hown (hts _ q1049) dX7_reads_7 ?_
    exact s_iret cf hr hlk () hw (by unfold R_reads; rw [if_neg c4]) (Nat.le_of_ble_eq_true rfl) (Nat.le_of_ble_eq_true rfl) dX7_reads_9 hQ
set_option maxRecDepth 100000 in
set_option maxHeartbeats 4000000 in
theorem m_ask {l : Launch} {g : GG} {a : Nat} {ad : Nat → Nat} {fs : List Value} (hf : MF ad fs) {sh si sk : DD} (x y : Int32) : Ct l g yX7_ask cX7_ask 3 (Option.some Jvm.ClassFile.FieldType.int) 2 0 0 [.ref a, .int x, .int y] [bO a 7 fs, bI g (ad 31) 5 sh, bI g (ad 32) 5 si, bI g (ad 33) 5 sk] (QI g (fun r (_ : Unit) => r = R_ask sh si sk x y) (fun _ => [bO a 7 fs, bI g (ad 31) 5 sh, bI g (ad 32) 5 si, bI g (ad 33) 5 sk])) := by
  refine Ct.of (by decide) rfl ?_
  intro p e s m args below meth c A H locs ls Qf cf hr hlk hnm hQ hw hl
  have hx := cf.1
  have hb := cf.2.1
  have hml := cf.2.2.1
  have hown := cf.2.2.2.1
  have hts := cf.2.2.2.2
  have hw : WD g A s H locs [bO a 7 fs, bI g (ad 31) 5 sh, bI g (ad 32) 5 si, bI g (ad 33) 5 sk] := hw
  have hl : lv_has ls 3 [(0, .ref a), (1, .int x), (2, .int y)] := hl
  refine lv_iload_n hx hb dX7_ask_0 rfl (lv_at hl 1 rfl) ?_
  refine lv_i2l (v := (x : Int32).toInt64) hx hb dX7_ask_1 rfl ?_
  refine lv_lconst (v := (0 : Int32).toInt64) hx hb dX7_ask_2 (by decide) ?_
  refine lv_ldc2 hx hb hown (hts _ q1130) dX7_ask_3 ?_
  refine lv_toplr (y := (4 : Int32).toInt64) (by decide) ?_
  refine s_calli (runS cf (m_in (x : Int32) (0 : Int32) (4 : Int32)) hw [] (by decide) rfl km_X7_in ks_X7_in q1045 rfl rfl hl.1 rfl dX7_ask_6) hw [] (by decide) rfl (fun _ => rfl) (fun r_3 u_1 H locs hp_2 hw => ?_)
  have hw : WD g A s H locs [bO a 7 fs, bI g (ad 31) 5 sh, bI g (ad 32) 5 si, bI g (ad 33) 5 sk] := hw
  subst hp_2
  refine lv_if_eq (tgt := 24) hx hb dX7_ask_9 (by decide) (fun c9 => ?_) (fun c9 => ?_)
  · have c9 := b01_z c9
    refine lv_ldc hx hb hown (hts _ q1049) dX7_ask_24 ?_
    exact s_iret cf hr hlk () hw (by unfold R_ask; rw [if_neg (by grind)]) (Nat.le_of_ble_eq_true rfl) (Nat.le_of_ble_eq_true rfl) dX7_ask_26 hQ
  · have c9 := b01_n c9
    refine lv_iload_n hx hb dX7_ask_12 rfl (lv_at hl 2 rfl) ?_
    refine lv_i2l (v := (y : Int32).toInt64) hx hb dX7_ask_13 rfl ?_
    refine lv_lconst (v := (0 : Int32).toInt64) hx hb dX7_ask_14 (by decide) ?_
    refine lv_ldc2 hx hb hown (hts _ q1044) dX7_ask_15 ?_
    refine lv_toplr (y := (5 : Int32).toInt64) (by decide) ?_
    refine s_calli (runS cf (m_in (y : Int32) (0 : Int32) (5 : Int32)) hw [] (by decide) rfl km_X7_in ks_X7_in q1045 rfl rfl hl.1 rfl dX7_ask_18) hw [] (by decide) rfl (fun _ => rfl) (fun r_6 u_4 H locs hp_5 hw => ?_)
    have hw : WD g A s H locs [bO a 7 fs, bI g (ad 31) 5 sh, bI g (ad 32) 5 si, bI g (ad 33) 5 sk] := hw
    subst hp_5
    refine lv_if_ne (tgt := 27) hx hb dX7_ask_21 (by decide) (fun c21 => ?_) (fun c21 => ?_)
    · have c21 := b01_n c21
      obtain ⟨k, hk, hkx⟩ := rng_nat (m := 4) (by omega) c9.1 c9.2
      subst hkx
      have hclk : (nI k).toNatClampNeg = k := nI_clamp (by omega)
      refine lv_aload_n hx hb dX7_ask_27 rfl (lv_at hl 0 rfl) ?_
      refine s_get (v := .ref (ad 31)) fb7 cf hw 0 rfl 31 rfl q952 (hf.2 31 rfl) dX7_ask_28 ?_
      refine lv_iload_n hx hb dX7_ask_31 rfl (lv_at hl 1 rfl) ?_
      refine s_iald (j := k) cf hw 1 rfl (rfl) (by omega) rfl dX7_ask_32 ?_
      refine lv_if_ne (tgt := 39) hx hb dX7_ask_33 (by decide) (fun c33 => ?_) (fun c33 => ?_)
      · refine lv_aload_n hx hb dX7_ask_39 rfl (lv_at hl 0 rfl) ?_
        refine s_get (v := .ref (ad 31)) fb7 cf hw 0 rfl 31 rfl q952 (hf.2 31 rfl) dX7_ask_40 ?_
        refine lv_iload_n hx hb dX7_ask_43 rfl (lv_at hl 1 rfl) ?_
        refine s_iald (j := k) cf hw 1 rfl (rfl) (by omega) rfl dX7_ask_44 ?_
        refine lv_iconst (v := 1) hx hb dX7_ask_45 (by decide) ?_
        refine lv_icmp_ne (tgt := 71) hx hb dX7_ask_46 (by decide) (fun c46 => ?_) (fun c46 => ?_)
        · refine lv_ldc hx hb hown (hts _ q1117) dX7_ask_71 ?_
          exact s_iret cf hr hlk () hw (by unfold R_ask; rw [if_pos ⟨c9, c21⟩, hclk, if_neg c33, if_neg (by grind)]) (Nat.le_of_ble_eq_true rfl) (Nat.le_of_ble_eq_true rfl) dX7_ask_73 hQ
        · refine lv_aload_n hx hb dX7_ask_49 rfl (lv_at hl 0 rfl) ?_
          refine s_get (v := .ref (ad 33)) fb7 cf hw 0 rfl 33 rfl q954 (hf.2 33 rfl) dX7_ask_50 ?_
          refine lv_iload_n hx hb dX7_ask_53 rfl (lv_at hl 1 rfl) ?_
          refine s_iald (j := k) cf hw 3 rfl (rfl) (by omega) rfl dX7_ask_54 ?_
          refine lv_iload_n hx hb dX7_ask_55 rfl (lv_at hl 2 rfl) ?_
          refine s_calli (runS cf (m_isUnder (sk k) y) hw [] (by decide) rfl km_X7_isUnder ks_X7_isUnder q1111 rfl rfl hl.1 rfl dX7_ask_56) hw [] (by decide) rfl (fun _ => rfl) (fun r_9 u_7 H locs hp_8 hw => ?_)
          have hw : WD g A s H locs [bO a 7 fs, bI g (ad 31) 5 sh, bI g (ad 32) 5 si, bI g (ad 33) 5 sk] := hw
          subst hp_8
          refine lv_if_eq (tgt := 71) hx hb dX7_ask_59 (by decide) (fun c59 => ?_) (fun c59 => ?_)
          · have c59 := b01_z c59
            refine lv_ldc hx hb hown (hts _ q1117) dX7_ask_71 ?_
            exact s_iret cf hr hlk () hw (by unfold R_ask; rw [if_pos ⟨c9, c21⟩, hclk, if_neg c33, if_neg (by grind)]) (Nat.le_of_ble_eq_true rfl) (Nat.le_of_ble_eq_true rfl) dX7_ask_73 hQ
          · have c59 := b01_n c59
            refine lv_aload_n hx hb dX7_ask_62 rfl (lv_at hl 0 rfl) ?_
            refine s_get (v := .ref (ad 32)) fb7 cf hw 0 rfl 32 rfl q953 (hf.2 32 rfl) dX7_ask_63 ?_
            refine lv_iload_n hx hb dX7_ask_66 rfl (lv_at hl 1 rfl) ?_
            refine s_iald (j := k) cf hw 2 rfl (rfl) (by omega) rfl dX7_ask_67 ?_
            refine lv_goto (tgt := 73) hx hb dX7_ask_68 (by decide) ?_
            exact s_iret cf hr hlk () hw (by unfold R_ask; rw [if_pos ⟨c9, c21⟩, hclk, if_neg c33, if_pos ⟨c46, c59⟩]) (Nat.le_of_ble_eq_true rfl) (Nat.le_of_ble_eq_true rfl) dX7_ask_73 hQ
      · refine lv_ldc hx hb hown (hts _ q1247) dX7_ask_36 ?_
        exact s_iret cf hr hlk () hw (by unfold R_ask; rw [if_pos ⟨c9, c21⟩, hclk, if_pos c33]) (Nat.le_of_ble_eq_true rfl) (Nat.le_of_ble_eq_true rfl) dX7_ask_38 hQ
    · have c21 := b01_z c21
      refine lv_ldc hx hb hown (hts _ q1049) dX7_ask_24 ?_
      exact s_iret cf hr hlk () hw (by unfold R_ask; rw [if_neg (by grind)]) (Nat.le_of_ble_eq_true rfl) (Nat.le_of_ble_eq_true rfl) dX7_ask_26 hQ
set_option maxRecDepth 100000 in
set_option maxHeartbeats 4000000 in
theorem m_item {l : Launch} {g : GG} {a : Nat} {ad : Nat → Nat} {fs : List Value} (hf : MF ad fs) {sh ss sn sb : DD} (hss : ∀ k, k < 5 → sh k = 2 → ∃ m, m ≤ 24 ∧ ss k = nI m) (x y : Int32) : Ct l g yX7_item cX7_item 3 (Option.some Jvm.ClassFile.FieldType.int) 1 0 0 [.ref a, .int x, .int y] [bO a 7 fs, bI g (ad 31) 5 sh, bI g (ad 34) 5 ss, bI g (ad 35) 120 sn, bZ g (ad 36) 120 sb] (QI g (fun r (_ : Unit) => r = R_item sh ss sn sb x y) (fun _ => [bO a 7 fs, bI g (ad 31) 5 sh, bI g (ad 34) 5 ss, bI g (ad 35) 120 sn, bZ g (ad 36) 120 sb])) := by
  refine Ct.of (by decide) rfl ?_
  intro p e s m args below meth c A H locs ls Qf cf hr hlk hnm hQ hw hl
  have hx := cf.1
  have hb := cf.2.1
  have hml := cf.2.2.1
  have hown := cf.2.2.2.1
  have hts := cf.2.2.2.2
  have hw : WD g A s H locs [bO a 7 fs, bI g (ad 31) 5 sh, bI g (ad 34) 5 ss, bI g (ad 35) 120 sn, bZ g (ad 36) 120 sb] := hw
  have hl : lv_has ls 3 [(0, .ref a), (1, .int x), (2, .int y)] := hl
  refine lv_iload_n hx hb dX7_item_0 rfl (lv_at hl 1 rfl) ?_
  refine lv_i2l (v := (x : Int32).toInt64) hx hb dX7_item_1 rfl ?_
  refine lv_lconst (v := (0 : Int32).toInt64) hx hb dX7_item_2 (by decide) ?_
  refine lv_ldc2 hx hb hown (hts _ q1130) dX7_item_3 ?_
  refine lv_toplr (y := (4 : Int32).toInt64) (by decide) ?_
  refine s_calli (runS cf (m_in (x : Int32) (0 : Int32) (4 : Int32)) hw [] (by decide) rfl km_X7_in ks_X7_in q1045 rfl rfl hl.1 rfl dX7_item_6) hw [] (by decide) rfl (fun _ => rfl) (fun r_3 u_1 H locs hp_2 hw => ?_)
  have hw : WD g A s H locs [bO a 7 fs, bI g (ad 31) 5 sh, bI g (ad 34) 5 ss, bI g (ad 35) 120 sn, bZ g (ad 36) 120 sb] := hw
  subst hp_2
  refine lv_if_ne (tgt := 15) hx hb dX7_item_9 (by decide) (fun c9 => ?_) (fun c9 => ?_)
  · have c9 := b01_n c9
    obtain ⟨k, hk, hkx⟩ := rng_nat (m := 4) (by omega) c9.1 c9.2
    subst hkx
    have hclk : (nI k).toNatClampNeg = k := nI_clamp (by omega)
    refine lv_aload_n hx hb dX7_item_15 rfl (lv_at hl 0 rfl) ?_
    refine s_get (v := .ref (ad 31)) fb7 cf hw 0 rfl 31 rfl q952 (hf.2 31 rfl) dX7_item_16 ?_
    refine lv_iload_n hx hb dX7_item_19 rfl (lv_at hl 1 rfl) ?_
    refine s_iald (j := k) cf hw 1 rfl (rfl) (by omega) rfl dX7_item_20 ?_
    refine lv_if_ne (tgt := 27) hx hb dX7_item_21 (by decide) (fun c21 => ?_) (fun c21 => ?_)
    · refine lv_aload_n hx hb dX7_item_27 rfl (lv_at hl 0 rfl) ?_
      refine s_get (v := .ref (ad 31)) fb7 cf hw 0 rfl 31 rfl q952 (hf.2 31 rfl) dX7_item_28 ?_
      refine lv_iload_n hx hb dX7_item_31 rfl (lv_at hl 1 rfl) ?_
      refine s_iald (j := k) cf hw 1 rfl (rfl) (by omega) rfl dX7_item_32 ?_
      refine lv_iconst (v := 2) hx hb dX7_item_33 (by decide) ?_
      refine lv_icmp_eq (tgt := 40) hx hb dX7_item_34 (by decide) (fun c34 => ?_) (fun c34 => ?_)
      · refine lv_iload_n hx hb dX7_item_40 rfl (lv_at hl 2 rfl) ?_
        refine lv_i2l (v := (y : Int32).toInt64) hx hb dX7_item_41 rfl ?_
        refine lv_lconst (v := (0 : Int32).toInt64) hx hb dX7_item_42 (by decide) ?_
        refine lv_aload_n hx hb dX7_item_43 rfl (lv_at hl 0 rfl) ?_
        refine s_get (v := .ref (ad 34)) fb7 cf hw 0 rfl 34 rfl q955 (hf.2 34 rfl) dX7_item_44 ?_
        refine lv_iload_n hx hb dX7_item_47 rfl (lv_at hl 1 rfl) ?_
        refine s_iald (j := k) cf hw 2 rfl (rfl) (by omega) rfl dX7_item_48 ?_
        refine lv_iconst (v := 1) hx hb dX7_item_49 (by decide) ?_
        refine lv_isub hx hb dX7_item_50 ?_
        refine lv_i2l (v := ((ss k) - 1 : Int32).toInt64) hx hb dX7_item_51 rfl ?_
        refine s_calli (runS cf (m_in (y : Int32) (0 : Int32) ((ss k) - 1 : Int32)) hw [] (by decide) rfl km_X7_in ks_X7_in q1045 rfl rfl hl.1 rfl dX7_item_52) hw [] (by decide) rfl (fun _ => rfl) (fun r_6 u_4 H locs hp_5 hw => ?_)
        have hw : WD g A s H locs [bO a 7 fs, bI g (ad 31) 5 sh, bI g (ad 34) 5 ss, bI g (ad 35) 120 sn, bZ g (ad 36) 120 sb] := hw
        subst hp_5
        refine lv_if_ne (tgt := 62) hx hb dX7_item_55 (by decide) (fun c55 => ?_) (fun c55 => ?_)
        · have c55 := b01_n c55
          obtain ⟨mm, hm24, hm⟩ := hss k (by omega) c34
          obtain ⟨pn, hpn, hpx, -⟩ := below_nat hm (by omega) c55
          subst hpx
          refine lv_aload_n hx hb dX7_item_62 rfl (lv_at hl 0 rfl) ?_
          refine s_get (v := .ref (ad 36)) fb7 cf hw 0 rfl 36 rfl q957 (hf.2 36 rfl) dX7_item_63 ?_
          refine lv_bipush (v := 24) hx hb dX7_item_66 (by decide) ?_
          refine lv_iload_n hx hb dX7_item_68 rfl (lv_at hl 1 rfl) ?_
          refine lv_imul hx hb dX7_item_69 ?_
          refine lv_iload_n hx hb dX7_item_70 rfl (lv_at hl 2 rfl) ?_
          refine lv_iadd hx hb dX7_item_71 ?_
          refine s_zald (j := (24 * k + pn)) cf hw 4 rfl (ix24 k pn) (by omega) rfl dX7_item_72 ?_
          refine lv_if_eq (tgt := 90) hx hb dX7_item_73 (by decide) (fun c73 => ?_) (fun c73 => ?_)
          · refine lv_ldc hx hb hown (hts _ q1117) dX7_item_90 ?_
            exact s_iret cf hr hlk () hw (by unfold R_item; rw [if_pos c9, hclk, if_neg c21, if_pos c34, if_pos c55, nI_clamp (by omega), if_pos c73]) (Nat.le_of_ble_eq_true rfl) (Nat.le_of_ble_eq_true rfl) dX7_item_92 hQ
          · refine lv_aload_n hx hb dX7_item_76 rfl (lv_at hl 0 rfl) ?_
            refine s_get (v := .ref (ad 35)) fb7 cf hw 0 rfl 35 rfl q956 (hf.2 35 rfl) dX7_item_77 ?_
            refine lv_bipush (v := 24) hx hb dX7_item_80 (by decide) ?_
            refine lv_iload_n hx hb dX7_item_82 rfl (lv_at hl 1 rfl) ?_
            refine lv_imul hx hb dX7_item_83 ?_
            refine lv_iload_n hx hb dX7_item_84 rfl (lv_at hl 2 rfl) ?_
            refine lv_iadd hx hb dX7_item_85 ?_
            refine s_iald (j := (24 * k + pn)) cf hw 3 rfl (ix24 k pn) (by omega) rfl dX7_item_86 ?_
            refine lv_goto (tgt := 92) hx hb dX7_item_87 (by decide) ?_
            exact s_iret cf hr hlk () hw (by unfold R_item; rw [if_pos c9, hclk, if_neg c21, if_pos c34, if_pos c55, nI_clamp (by omega), if_neg c73]) (Nat.le_of_ble_eq_true rfl) (Nat.le_of_ble_eq_true rfl) dX7_item_92 hQ
        · have c55 := b01_z c55
          refine lv_ldcw hx hb hown (hts _ q1342) dX7_item_58 ?_
          exact s_iret cf hr hlk () hw (by unfold R_item; rw [if_pos c9, hclk, if_neg c21, if_pos c34, if_neg c55]) (Nat.le_of_ble_eq_true rfl) (Nat.le_of_ble_eq_true rfl) dX7_item_61 hQ
      · refine lv_ldc hx hb hown (hts _ q1117) dX7_item_37 ?_
        exact s_iret cf hr hlk () hw (by unfold R_item; rw [if_pos c9, hclk, if_neg c21, if_neg c34]) (Nat.le_of_ble_eq_true rfl) (Nat.le_of_ble_eq_true rfl) dX7_item_39 hQ
    · refine lv_ldc hx hb hown (hts _ q1247) dX7_item_24 ?_
      exact s_iret cf hr hlk () hw (by unfold R_item; rw [if_pos c9, hclk, if_pos c21]) (Nat.le_of_ble_eq_true rfl) (Nat.le_of_ble_eq_true rfl) dX7_item_26 hQ
  · have c9 := b01_z c9
    refine lv_ldc hx hb hown (hts _ q1049) dX7_item_12 ?_
    exact s_iret cf hr hlk () hw (by unfold R_item; rw [if_neg c9]) (Nat.le_of_ble_eq_true rfl) (Nat.le_of_ble_eq_true rfl) dX7_item_14 hQ
set_option maxRecDepth 100000 in
set_option maxHeartbeats 4000000 in
theorem m_rest {l : Launch} {g : GG} {a : Nat} {ad : Nat → Nat} {fs : List Value} (hf : MF ad fs) {sh si : DD} (x y : Int32) : Ct l g yX7_rest cX7_rest 3 (Option.some Jvm.ClassFile.FieldType.int) 1 0 0 [.ref a, .int x, .int y] [bO a 7 fs, bI g (ad 31) 5 sh, bI g (ad 32) 5 si] (QI g (fun r (_ : Unit) => r = R_rest sh si x y) (fun _ => [bO a 7 fs, bI g (ad 31) 5 sh, bI g (ad 32) 5 si])) := by
  refine Ct.of (by decide) rfl ?_
  intro p e s m args below meth c A H locs ls Qf cf hr hlk hnm hQ hw hl
  have hx := cf.1
  have hb := cf.2.1
  have hml := cf.2.2.1
  have hown := cf.2.2.2.1
  have hts := cf.2.2.2.2
  have hw : WD g A s H locs [bO a 7 fs, bI g (ad 31) 5 sh, bI g (ad 32) 5 si] := hw
  have hl : lv_has ls 3 [(0, .ref a), (1, .int x), (2, .int y)] := hl
  refine lv_iload_n hx hb dX7_rest_0 rfl (lv_at hl 1 rfl) ?_
  refine lv_i2l (v := (x : Int32).toInt64) hx hb dX7_rest_1 rfl ?_
  refine lv_lconst (v := (0 : Int32).toInt64) hx hb dX7_rest_2 (by decide) ?_
  refine lv_ldc2 hx hb hown (hts _ q1130) dX7_rest_3 ?_
  refine lv_toplr (y := (4 : Int32).toInt64) (by decide) ?_
  refine s_calli (runS cf (m_in (x : Int32) (0 : Int32) (4 : Int32)) hw [] (by decide) rfl km_X7_in ks_X7_in q1045 rfl rfl hl.1 rfl dX7_rest_6) hw [] (by decide) rfl (fun _ => rfl) (fun r_3 u_1 H locs hp_2 hw => ?_)
  have hw : WD g A s H locs [bO a 7 fs, bI g (ad 31) 5 sh, bI g (ad 32) 5 si] := hw
  subst hp_2
  refine lv_if_ne (tgt := 15) hx hb dX7_rest_9 (by decide) (fun c9 => ?_) (fun c9 => ?_)
  · have c9 := b01_n c9
    obtain ⟨k, hk, hkx⟩ := rng_nat (m := 4) (by omega) c9.1 c9.2
    subst hkx
    have hclk : (nI k).toNatClampNeg = k := nI_clamp (by omega)
    refine lv_aload_n hx hb dX7_rest_15 rfl (lv_at hl 0 rfl) ?_
    refine s_get (v := .ref (ad 31)) fb7 cf hw 0 rfl 31 rfl q952 (hf.2 31 rfl) dX7_rest_16 ?_
    refine lv_iload_n hx hb dX7_rest_19 rfl (lv_at hl 1 rfl) ?_
    refine s_iald (j := k) cf hw 1 rfl (rfl) (by omega) rfl dX7_rest_20 ?_
    refine lv_if_ne (tgt := 27) hx hb dX7_rest_21 (by decide) (fun c21 => ?_) (fun c21 => ?_)
    · refine lv_aload_n hx hb dX7_rest_27 rfl (lv_at hl 0 rfl) ?_
      refine s_get (v := .ref (ad 31)) fb7 cf hw 0 rfl 31 rfl q952 (hf.2 31 rfl) dX7_rest_28 ?_
      refine lv_iload_n hx hb dX7_rest_31 rfl (lv_at hl 1 rfl) ?_
      refine s_iald (j := k) cf hw 1 rfl (rfl) (by omega) rfl dX7_rest_32 ?_
      refine lv_iconst (v := 3) hx hb dX7_rest_33 (by decide) ?_
      refine lv_icmp_eq (tgt := 40) hx hb dX7_rest_34 (by decide) (fun c34 => ?_) (fun c34 => ?_)
      · refine lv_iload_n hx hb dX7_rest_40 rfl (lv_at hl 2 rfl) ?_
        refine lv_if_ne (tgt := 50) hx hb dX7_rest_41 (by decide) (fun c41 => ?_) (fun c41 => ?_)
        · refine lv_iload_n hx hb dX7_rest_50 rfl (lv_at hl 2 rfl) ?_
          refine lv_iconst (v := (-1)) hx hb dX7_rest_51 (by decide) ?_
          refine lv_icmp_ne (tgt := 59) hx hb dX7_rest_52 (by decide) (fun c52 => ?_) (fun c52 => ?_)
          · refine lv_aload_n hx hb dX7_rest_59 rfl (lv_at hl 0 rfl) ?_
            refine s_get (v := .ref (ad 32)) fb7 cf hw 0 rfl 32 rfl q953 (hf.2 32 rfl) dX7_rest_60 ?_
            refine lv_iload_n hx hb dX7_rest_63 rfl (lv_at hl 1 rfl) ?_
            refine s_iald (j := k) cf hw 2 rfl (rfl) (by omega) rfl dX7_rest_64 ?_
            refine lv_iload_n hx hb dX7_rest_65 rfl (lv_at hl 2 rfl) ?_
            refine lv_irem hx hb dX7_rest_66 c41 ?_
            exact s_iret cf hr hlk () hw (by unfold R_rest; rw [if_pos c9, hclk, if_neg c21, if_pos c34, if_neg c41, if_neg c52]; rfl) (Nat.le_of_ble_eq_true rfl) (Nat.le_of_ble_eq_true rfl) dX7_rest_67 hQ
          · refine lv_iconst (v := 0) hx hb dX7_rest_55 (by decide) ?_
            refine lv_goto (tgt := 67) hx hb dX7_rest_56 (by decide) ?_
            exact s_iret cf hr hlk () hw (by unfold R_rest; rw [if_pos c9, hclk, if_neg c21, if_pos c34, if_neg c41, if_pos c52]) (Nat.le_of_ble_eq_true rfl) (Nat.le_of_ble_eq_true rfl) dX7_rest_67 hQ
        · refine lv_ldcw hx hb hown (hts _ q1372) dX7_rest_44 ?_
          refine lv_goto (tgt := 67) hx hb dX7_rest_47 (by decide) ?_
          exact s_iret cf hr hlk () hw (by unfold R_rest; rw [if_pos c9, hclk, if_neg c21, if_pos c34, if_pos c41]) (Nat.le_of_ble_eq_true rfl) (Nat.le_of_ble_eq_true rfl) dX7_rest_67 hQ
      · refine lv_ldc hx hb hown (hts _ q1117) dX7_rest_37 ?_
        exact s_iret cf hr hlk () hw (by unfold R_rest; rw [if_pos c9, hclk, if_neg c21, if_neg c34]) (Nat.le_of_ble_eq_true rfl) (Nat.le_of_ble_eq_true rfl) dX7_rest_39 hQ
    · refine lv_ldc hx hb hown (hts _ q1247) dX7_rest_24 ?_
      exact s_iret cf hr hlk () hw (by unfold R_rest; rw [if_pos c9, hclk, if_pos c21]) (Nat.le_of_ble_eq_true rfl) (Nat.le_of_ble_eq_true rfl) dX7_rest_26 hQ
  · have c9 := b01_z c9
    refine lv_ldc hx hb hown (hts _ q1049) dX7_rest_12 ?_
    exact s_iret cf hr hlk () hw (by unfold R_rest; rw [if_neg c9]) (Nat.le_of_ble_eq_true rfl) (Nat.le_of_ble_eq_true rfl) dX7_rest_14 hQ
