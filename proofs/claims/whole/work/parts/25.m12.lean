set_option maxRecDepth 100000 in
set_option maxHeartbeats 4000000 in
theorem m_lay {l : Launch} {g : GG} {a : Nat} {ad : Nat → Nat} {fs : List Value} (hf : MF ad fs) {d : DD} {n : Nat} (hn : d 0 = nI n) (hn10 : n ≤ 10) {so sz nu isn sh si sk ss sn sb : DD} (hb01 : ∀ j, isn j = 0 ∨ isn j = 1) (x t k : Int32) : Ct l g yX7_lay cX7_lay 6 (Option.some Jvm.ClassFile.FieldType.int) 2 0 0 [.ref a, .int x, .int t, .int k] [bO a 7 fs, bI g (ad 0) 60 d, bI g (ad 24) 4 so, bI g (ad 25) 4 sz, bI g (ad 26) 96 nu, bZ g (ad 27) 96 isn, bI g (ad 31) 5 sh, bI g (ad 32) 5 si, bI g (ad 33) 5 sk, bI g (ad 34) 5 ss, bI g (ad 35) 120 sn, bZ g (ad 36) 120 sb] (QI g (fun r (_ : Unit) => r = R_lay d so sh x t k) (fun _ => [bO a 7 fs, bI g (ad 0) 60 d, bI g (ad 24) 4 so, bI g (ad 25) 4 sz, bI g (ad 26) 96 nu, bZ g (ad 27) 96 isn, bI g (ad 31) 5 (D_lay1 d so sh x t k), bI g (ad 32) 5 (D_lay3 d so si x t k), bI g (ad 33) 5 (D_lay2 d so sk x t k), bI g (ad 34) 5 (D_lay4 d so sz ss x t k), bI g (ad 35) 120 (D_lay5 d so nu sn x t k), bZ g (ad 36) 120 (D_lay5 d so isn sb x t k)])) := by
  refine Ct.of (by decide) rfl ?_
  intro p e s m args below meth c A H locs ls Qf cf hr hlk hnm hQ hw hl
  have hx := cf.1
  have hb := cf.2.1
  have hml := cf.2.2.1
  have hown := cf.2.2.2.1
  have hts := cf.2.2.2.2
  have hw : WD g A s H locs [bO a 7 fs, bI g (ad 0) 60 d, bI g (ad 24) 4 so, bI g (ad 25) 4 sz, bI g (ad 26) 96 nu, bZ g (ad 27) 96 isn, bI g (ad 31) 5 sh, bI g (ad 32) 5 si, bI g (ad 33) 5 sk, bI g (ad 34) 5 ss, bI g (ad 35) 120 sn, bZ g (ad 36) 120 sb] := hw
  have hl : lv_has ls 6 [(0, .ref a), (1, .int x), (2, .int t), (3, .int k)] := hl
  refine lv_iload_n hx hb dX7_lay_0 rfl (lv_at hl 1 rfl) ?_
  refine lv_i2l (v := (x : Int32).toInt64) hx hb dX7_lay_1 rfl ?_
  refine lv_lconst (v := (0 : Int32).toInt64) hx hb dX7_lay_2 (by decide) ?_
  refine lv_ldc2 hx hb hown (hts _ q1130) dX7_lay_3 ?_
  refine lv_toplr (y := (4 : Int32).toInt64) (by decide) ?_
  refine s_calli (runS cf (m_in (x : Int32) (0 : Int32) (4 : Int32)) hw [] (by decide) rfl km_X7_in ks_X7_in q1045 rfl rfl hl.1 rfl dX7_lay_6) hw [] (by decide) rfl (fun _ => rfl) (fun r_3 u_1 H locs hp_2 hw => ?_)
  have hw : WD g A s H locs [bO a 7 fs, bI g (ad 0) 60 d, bI g (ad 24) 4 so, bI g (ad 25) 4 sz, bI g (ad 26) 96 nu, bZ g (ad 27) 96 isn, bI g (ad 31) 5 sh, bI g (ad 32) 5 si, bI g (ad 33) 5 sk, bI g (ad 34) 5 ss, bI g (ad 35) 120 sn, bZ g (ad 36) 120 sb] := hw
  subst hp_2
  refine lv_if_eq (tgt := 49) hx hb dX7_lay_9 (by decide) (fun c9 => ?_) (fun c9 => ?_)
  · have c9 := b01_z c9
    refine lv_ldc hx hb hown (hts _ q1049) dX7_lay_49 ?_
    have hno : ¬ okLay d so x t k := by unfold okLay; grind
    exact s_iret cf hr hlk () (by rw [show D_lay1 d so sh x t k = sh from if_neg hno, show D_lay3 d so si x t k = si from if_neg (fun z => hno z.1), show D_lay2 d so sk x t k = sk from if_neg (fun z => hno z.1), show D_lay4 d so sz ss x t k = ss from if_neg (fun z => hno z.1), show D_lay5 d so nu sn x t k = sn from if_neg (fun z => hno z.1), show D_lay5 d so isn sb x t k = sb from if_neg (fun z => hno z.1)]; exact hw) (by unfold R_lay; rw [if_pos (by grind)]) (Nat.le_of_ble_eq_true rfl) (Nat.le_of_ble_eq_true rfl) dX7_lay_51 hQ
  · have c9 := b01_n c9
    refine lv_iload_n hx hb dX7_lay_12 rfl (lv_at hl 2 rfl) ?_
    refine lv_i2l (v := (t : Int32).toInt64) hx hb dX7_lay_13 rfl ?_
    refine lv_lconst (v := (0 : Int32).toInt64) hx hb dX7_lay_14 (by decide) ?_
    refine lv_ldc2 hx hb hown (hts _ q1246) dX7_lay_15 ?_
    refine lv_toplr (y := (3 : Int32).toInt64) (by decide) ?_
    refine s_calli (runS cf (m_in (t : Int32) (0 : Int32) (3 : Int32)) hw [] (by decide) rfl km_X7_in ks_X7_in q1045 rfl rfl hl.1 rfl dX7_lay_18) hw [] (by decide) rfl (fun _ => rfl) (fun r_6 u_4 H locs hp_5 hw => ?_)
    have hw : WD g A s H locs [bO a 7 fs, bI g (ad 0) 60 d, bI g (ad 24) 4 so, bI g (ad 25) 4 sz, bI g (ad 26) 96 nu, bZ g (ad 27) 96 isn, bI g (ad 31) 5 sh, bI g (ad 32) 5 si, bI g (ad 33) 5 sk, bI g (ad 34) 5 ss, bI g (ad 35) 120 sn, bZ g (ad 36) 120 sb] := hw
    subst hp_5
    refine lv_if_eq (tgt := 49) hx hb dX7_lay_21 (by decide) (fun c21 => ?_) (fun c21 => ?_)
    · have c21 := b01_z c21
      refine lv_ldc hx hb hown (hts _ q1049) dX7_lay_49 ?_
      have hno : ¬ okLay d so x t k := by unfold okLay; grind
      exact s_iret cf hr hlk () (by rw [show D_lay1 d so sh x t k = sh from if_neg hno, show D_lay3 d so si x t k = si from if_neg (fun z => hno z.1), show D_lay2 d so sk x t k = sk from if_neg (fun z => hno z.1), show D_lay4 d so sz ss x t k = ss from if_neg (fun z => hno z.1), show D_lay5 d so nu sn x t k = sn from if_neg (fun z => hno z.1), show D_lay5 d so isn sb x t k = sb from if_neg (fun z => hno z.1)]; exact hw) (by unfold R_lay; rw [if_pos (by grind)]) (Nat.le_of_ble_eq_true rfl) (Nat.le_of_ble_eq_true rfl) dX7_lay_51 hQ
    · have c21 := b01_n c21
      refine lv_iload_n hx hb dX7_lay_24 rfl (lv_at hl 2 rfl) ?_
      refine lv_iconst (v := 1) hx hb dX7_lay_25 (by decide) ?_
      refine lv_icmp_ne (tgt := 37) hx hb dX7_lay_26 (by decide) (fun c26 => ?_) (fun c26 => ?_)
      · refine lv_iload_n hx hb dX7_lay_37 rfl (lv_at hl 2 rfl) ?_
        refine lv_iconst (v := 2) hx hb dX7_lay_38 (by decide) ?_
        refine lv_icmp_ne (tgt := 52) hx hb dX7_lay_39 (by decide) (fun c39 => ?_) (fun c39 => ?_)
        · refine lv_iload_n hx hb dX7_lay_52 rfl (lv_at hl 2 rfl) ?_
          refine lv_iconst (v := 2) hx hb dX7_lay_53 (by decide) ?_
          refine lv_icmp_ne (tgt := 69) hx hb dX7_lay_54 (by decide) (fun c54 => ?_) (fun c54 => ?_)
          · have hok : okLay d so x t k := ⟨by grind, by grind⟩
            obtain ⟨sl, hsl, hslx⟩ := rng_nat (m := 4) (by omega) c9.1 c9.2
            subst hslx
            have hcls : (nI sl).toNatClampNeg = sl := nI_clamp (by omega)
            refine lv_aload_n hx hb dX7_lay_69 rfl (lv_at hl 0 rfl) ?_
            refine s_get (v := .ref (ad 31)) fb7 cf hw 0 rfl 31 rfl q952 (hf.2 31 rfl) dX7_lay_70 ?_
            refine lv_iload_n hx hb dX7_lay_73 rfl (lv_at hl 1 rfl) ?_
            refine s_iald (j := sl) cf hw 6 rfl (rfl) (by omega) rfl dX7_lay_74 ?_
            refine lv_istore (lv' := [(4, .int (sh sl)), (0, .ref a), (1, .int (nI sl)), (2, .int t), (3, .int k)]) hx hb dX7_lay_75 hl (by decide) rfl (fun ls hl => ?_)
            refine lv_aload_n hx hb dX7_lay_77 rfl (lv_at hl 1 rfl) ?_
            refine s_get (v := .ref (ad 31)) fb7 cf hw 0 rfl 31 rfl q952 (hf.2 31 rfl) dX7_lay_78 ?_
            refine lv_iload_n hx hb dX7_lay_81 rfl (lv_at hl 2 rfl) ?_
            refine lv_iload_n hx hb dX7_lay_82 rfl (lv_at hl 3 rfl) ?_
            refine s_iast (j := sl) cf hw 6 rfl (rfl) (by omega) rfl dX7_lay_83 (fun H locs hw => ?_)
            have hw : WD g A s H locs [bO a 7 fs, bI g (ad 0) 60 d, bI g (ad 24) 4 so, bI g (ad 25) 4 sz, bI g (ad 26) 96 nu, bZ g (ad 27) 96 isn, bI g (ad 31) 5 (upd sh sl t), bI g (ad 32) 5 si, bI g (ad 33) 5 sk, bI g (ad 34) 5 ss, bI g (ad 35) 120 sn, bZ g (ad 36) 120 sb] := hw
            refine lv_iload_n hx hb dX7_lay_84 rfl (lv_at hl 3 rfl) ?_
            refine lv_iconst (v := 1) hx hb dX7_lay_85 (by decide) ?_
            refine lv_icmp_ne (tgt := 137) hx hb dX7_lay_86 (by decide) (fun c86 => ?_) (fun c86 => ?_)
            · refine lv_iload_n hx hb dX7_lay_137 rfl (lv_at hl 3 rfl) ?_
              refine lv_iconst (v := 2) hx hb dX7_lay_138 (by decide) ?_
              refine lv_icmp_ne (tgt := 221) hx hb dX7_lay_139 (by decide) (fun c139 => ?_) (fun c139 => ?_)
              · refine lv_aload_n hx hb dX7_lay_221 rfl (lv_at hl 1 rfl) ?_
                refine s_get (v := .ref (ad 32)) fb7 cf hw 0 rfl 32 rfl q953 (hf.2 32 rfl) dX7_lay_222 ?_
                refine lv_iload_n hx hb dX7_lay_225 rfl (lv_at hl 2 rfl) ?_
                refine lv_iload_n hx hb dX7_lay_226 rfl (lv_at hl 4 rfl) ?_
                refine s_iast (j := sl) cf hw 7 rfl (rfl) (by omega) rfl dX7_lay_227 (fun H locs hw => ?_)
                have hw : WD g A s H locs [bO a 7 fs, bI g (ad 0) 60 d, bI g (ad 24) 4 so, bI g (ad 25) 4 sz, bI g (ad 26) 96 nu, bZ g (ad 27) 96 isn, bI g (ad 31) 5 (upd sh sl t), bI g (ad 32) 5 (upd si sl k), bI g (ad 33) 5 sk, bI g (ad 34) 5 ss, bI g (ad 35) 120 sn, bZ g (ad 36) 120 sb] := hw
                refine lv_iload hx hb dX7_lay_228 (lv_at hl 0 rfl) ?_
                exact s_iret cf hr hlk () (by rw [show D_lay1 d so sh (nI sl) t k = upd sh sl t from (if_pos hok).trans (by rw [hcls]), show D_lay3 d so si (nI sl) t k = upd si sl k from (if_pos ⟨hok, c39⟩).trans (by rw [hcls, if_neg c26]), show D_lay2 d so sk (nI sl) t k = sk from if_neg (fun z => c26 z.2), show D_lay4 d so sz ss (nI sl) t k = ss from if_neg (fun z => c39 z.2), show D_lay5 d so nu sn (nI sl) t k = sn from if_neg (fun z => c39 z.2), show D_lay5 d so isn sb (nI sl) t k = sb from if_neg (fun z => c39 z.2)]; exact hw) (by unfold R_lay; rw [if_neg hok.1, if_neg hok.2, hcls]) (Nat.le_of_ble_eq_true rfl) (Nat.le_of_ble_eq_true rfl) dX7_lay_230 hQ
              · exact absurd c139 c39
            · exact absurd c86 c26
          · exact absurd c54 c39
        · refine lv_iload_n hx hb dX7_lay_42 rfl (lv_at hl 3 rfl) ?_
          refine s_calli (runS cf (m_isSheet k) hw [] (by decide) rfl km_X7_isSheet ks_X7_isSheet q1243 rfl rfl hl.1 rfl dX7_lay_43) hw [] (by decide) rfl (fun _ => rfl) (fun r_9 u_7 H locs hp_8 hw => ?_)
          have hw : WD g A s H locs [bO a 7 fs, bI g (ad 0) 60 d, bI g (ad 24) 4 so, bI g (ad 25) 4 sz, bI g (ad 26) 96 nu, bZ g (ad 27) 96 isn, bI g (ad 31) 5 sh, bI g (ad 32) 5 si, bI g (ad 33) 5 sk, bI g (ad 34) 5 ss, bI g (ad 35) 120 sn, bZ g (ad 36) 120 sb] := hw
          subst hp_8
          refine lv_if_ne (tgt := 52) hx hb dX7_lay_46 (by decide) (fun c46 => ?_) (fun c46 => ?_)
          · have c46 := b01_n c46
            refine lv_iload_n hx hb dX7_lay_52 rfl (lv_at hl 2 rfl) ?_
            refine lv_iconst (v := 2) hx hb dX7_lay_53 (by decide) ?_
            refine lv_icmp_ne (tgt := 69) hx hb dX7_lay_54 (by decide) (fun c54 => ?_) (fun c54 => ?_)
            · exact absurd c39 c54
            · obtain ⟨q, hq, hqx⟩ := rng_nat (m := 3) (by omega) c46.1 c46.2
              subst hqx
              have hclq : (nI q).toNatClampNeg = q := nI_clamp (by omega)
              refine lv_aload_n hx hb dX7_lay_57 rfl (lv_at hl 0 rfl) ?_
              refine s_get (v := .ref (ad 24)) fb7 cf hw 0 rfl 24 rfl q945 (hf.2 24 rfl) dX7_lay_58 ?_
              refine lv_iload_n hx hb dX7_lay_61 rfl (lv_at hl 3 rfl) ?_
              refine s_iald (j := q) cf hw 2 rfl (rfl) (by omega) rfl dX7_lay_62 ?_
              refine lv_if_ge (tgt := 69) hx hb dX7_lay_63 (by decide) (fun c63 => ?_) (fun c63 => ?_)
              · have hok : okLay d so x t (nI q) := ⟨by grind, by rw [hclq]; grind⟩
                obtain ⟨sl, hsl, hslx⟩ := rng_nat (m := 4) (by omega) c9.1 c9.2
                subst hslx
                have hcls : (nI sl).toNatClampNeg = sl := nI_clamp (by omega)
                refine lv_aload_n hx hb dX7_lay_69 rfl (lv_at hl 0 rfl) ?_
                refine s_get (v := .ref (ad 31)) fb7 cf hw 0 rfl 31 rfl q952 (hf.2 31 rfl) dX7_lay_70 ?_
                refine lv_iload_n hx hb dX7_lay_73 rfl (lv_at hl 1 rfl) ?_
                refine s_iald (j := sl) cf hw 6 rfl (rfl) (by omega) rfl dX7_lay_74 ?_
                refine lv_istore (lv' := [(4, .int (sh sl)), (0, .ref a), (1, .int (nI sl)), (2, .int t), (3, .int (nI q))]) hx hb dX7_lay_75 hl (by decide) rfl (fun ls hl => ?_)
                refine lv_aload_n hx hb dX7_lay_77 rfl (lv_at hl 1 rfl) ?_
                refine s_get (v := .ref (ad 31)) fb7 cf hw 0 rfl 31 rfl q952 (hf.2 31 rfl) dX7_lay_78 ?_
                refine lv_iload_n hx hb dX7_lay_81 rfl (lv_at hl 2 rfl) ?_
                refine lv_iload_n hx hb dX7_lay_82 rfl (lv_at hl 3 rfl) ?_
                refine s_iast (j := sl) cf hw 6 rfl (rfl) (by omega) rfl dX7_lay_83 (fun H locs hw => ?_)
                have hw : WD g A s H locs [bO a 7 fs, bI g (ad 0) 60 d, bI g (ad 24) 4 so, bI g (ad 25) 4 sz, bI g (ad 26) 96 nu, bZ g (ad 27) 96 isn, bI g (ad 31) 5 (upd sh sl t), bI g (ad 32) 5 si, bI g (ad 33) 5 sk, bI g (ad 34) 5 ss, bI g (ad 35) 120 sn, bZ g (ad 36) 120 sb] := hw
                refine lv_iload_n hx hb dX7_lay_84 rfl (lv_at hl 3 rfl) ?_
                refine lv_iconst (v := 1) hx hb dX7_lay_85 (by decide) ?_
                refine lv_icmp_ne (tgt := 137) hx hb dX7_lay_86 (by decide) (fun c86 => ?_) (fun c86 => ?_)
                · refine lv_iload_n hx hb dX7_lay_137 rfl (lv_at hl 3 rfl) ?_
                  refine lv_iconst (v := 2) hx hb dX7_lay_138 (by decide) ?_
                  refine lv_icmp_ne (tgt := 221) hx hb dX7_lay_139 (by decide) (fun c139 => ?_) (fun c139 => ?_)
                  · exact absurd c39 c139
                  · refine lv_aload_n hx hb dX7_lay_142 rfl (lv_at hl 1 rfl) ?_
                    refine s_get (v := .ref (ad 34)) fb7 cf hw 0 rfl 34 rfl q955 (hf.2 34 rfl) dX7_lay_143 ?_
                    refine lv_iload_n hx hb dX7_lay_146 rfl (lv_at hl 2 rfl) ?_
                    refine lv_aload_n hx hb dX7_lay_147 rfl (lv_at hl 1 rfl) ?_
                    refine s_get (v := .ref (ad 25)) fb7 cf hw 0 rfl 25 rfl q946 (hf.2 25 rfl) dX7_lay_148 ?_
                    refine lv_iload_n hx hb dX7_lay_151 rfl (lv_at hl 4 rfl) ?_
                    refine s_iald (j := q) cf hw 3 rfl (rfl) (by omega) rfl dX7_lay_152 ?_
                    refine s_iast (j := sl) cf hw 9 rfl (rfl) (by omega) rfl dX7_lay_153 (fun H locs hw => ?_)
                    have hw : WD g A s H locs [bO a 7 fs, bI g (ad 0) 60 d, bI g (ad 24) 4 so, bI g (ad 25) 4 sz, bI g (ad 26) 96 nu, bZ g (ad 27) 96 isn, bI g (ad 31) 5 (upd sh sl t), bI g (ad 32) 5 si, bI g (ad 33) 5 sk, bI g (ad 34) 5 (upd ss sl (sz q)), bI g (ad 35) 120 sn, bZ g (ad 36) 120 sb] := hw
                    refine lv_iconst (v := 0) hx hb dX7_lay_154 (by decide) ?_
                    refine lv_istore (lv' := [(5, .int 0), (4, .int (sh sl)), (0, .ref a), (1, .int (nI sl)), (2, .int t), (3, .int (nI q))]) hx hb dX7_lay_155 hl (by decide) rfl (fun ls hl => ?_)
                    have L157 : ∀ (fu : Nat) (i : Nat), (i ≤ 24) → (24 < i + fu) → ∀ (H : Heap) (locs : List Loc) (ls : Array Slot), WD g A s H locs [bO a 7 fs, bI g (ad 0) 60 d, bI g (ad 24) 4 so, bI g (ad 25) 4 sz, bI g (ad 26) 96 nu, bZ g (ad 27) 96 isn, bI g (ad 31) 5 (upd sh sl t), bI g (ad 32) 5 si, bI g (ad 33) 5 sk, bI g (ad 34) 5 (upd ss sl (sz q)), bI g (ad 35) 120 (rowF nu (24 * q) (24 * sl) i sn), bZ g (ad 36) 120 (rowF isn (24 * q) (24 * sl) i sb)] → lv_has ls 6 [(0, .ref a), (1, .int (nI sl)), (2, .int t), (3, .int (nI q)), (4, .int (sh sl)), (5, .int (nI i))] → W p l e (rmx 2 0 0) s m args below meth c H locs 0 0 Qf (F0 m 157 ls []) := by
                      intro fu
                      induction fu with
                      | zero => intro i hi hfu; exfalso; omega
                      | succ fu ih157 =>
                        intro i hi hfu H locs ls hw hl
                        refine lv_iload hx hb dX7_lay_157 (lv_at hl 5 rfl) ?_
                        refine lv_bipush (v := 24) hx hb dX7_lay_159 (by decide) ?_
                        refine lv_icmp_ge (tgt := 218) hx hb dX7_lay_161 (by decide) (fun c161 => ?_) (fun c161 => ?_)
                        · have hi2 : i = 24 := by have := nI_le_of (n := 24) (by omega) c161 (by omega); omega
                          refine lv_goto (tgt := 228) hx hb dX7_lay_218 (by decide) ?_
                          refine lv_iload hx hb dX7_lay_228 (lv_at hl 4 rfl) ?_
                          exact s_iret cf hr hlk () (by rw [show D_lay1 d so sh (nI sl) t (nI q) = upd sh sl t from (if_pos hok).trans (by rw [hcls]), show D_lay3 d so si (nI sl) t (nI q) = si from if_neg (fun z => z.2 c39), show D_lay2 d so sk (nI sl) t (nI q) = sk from if_neg (fun z => absurd (c39.symm.trans z.2) (by decide)), show D_lay4 d so sz ss (nI sl) t (nI q) = upd ss sl (sz q) from (if_pos ⟨hok, c39⟩).trans (by rw [hcls, hclq]), show D_lay5 d so nu sn (nI sl) t (nI q) = rowF nu (24 * q) (24 * sl) i sn from (if_pos ⟨hok, c39⟩).trans (by rw [hcls, hclq, ← hi2]), show D_lay5 d so isn sb (nI sl) t (nI q) = rowF isn (24 * q) (24 * sl) i sb from (if_pos ⟨hok, c39⟩).trans (by rw [hcls, hclq, ← hi2])]; exact hw) (by unfold R_lay; rw [if_neg hok.1, if_neg hok.2, hcls]) (Nat.le_of_ble_eq_true rfl) (Nat.le_of_ble_eq_true rfl) dX7_lay_230 hQ
                        · have hlt : i < 24 := nI_lt_of (n := 24) (by omega) c161 (by omega)
                          refine lv_aload_n hx hb dX7_lay_164 rfl (lv_at hl 0 rfl) ?_
                          refine s_get (v := .ref (ad 35)) fb7 cf hw 0 rfl 35 rfl q956 (hf.2 35 rfl) dX7_lay_165 ?_
                          refine lv_bipush (v := 24) hx hb dX7_lay_168 (by decide) ?_
                          refine lv_iload_n hx hb dX7_lay_170 rfl (lv_at hl 1 rfl) ?_
                          refine lv_imul hx hb dX7_lay_171 ?_
                          refine lv_iload hx hb dX7_lay_172 (lv_at hl 5 rfl) ?_
                          refine lv_iadd hx hb dX7_lay_174 ?_
                          refine lv_aload_n hx hb dX7_lay_175 rfl (lv_at hl 0 rfl) ?_
                          refine s_get (v := .ref (ad 26)) fb7 cf hw 0 rfl 26 rfl q947 (hf.2 26 rfl) dX7_lay_176 ?_
                          refine lv_bipush (v := 24) hx hb dX7_lay_179 (by decide) ?_
                          refine lv_iload_n hx hb dX7_lay_181 rfl (lv_at hl 3 rfl) ?_
                          refine lv_imul hx hb dX7_lay_182 ?_
                          refine lv_iload hx hb dX7_lay_183 (lv_at hl 5 rfl) ?_
                          refine lv_iadd hx hb dX7_lay_185 ?_
                          refine s_iald (j := (24 * q + i)) cf hw 4 rfl (ix24 q i) (by omega) rfl dX7_lay_186 ?_
                          refine s_iast (j := (24 * sl + i)) cf hw 10 rfl (ix24 sl i) (by omega) rfl dX7_lay_187 (fun H locs hw => ?_)
                          have hw : WD g A s H locs [bO a 7 fs, bI g (ad 0) 60 d, bI g (ad 24) 4 so, bI g (ad 25) 4 sz, bI g (ad 26) 96 nu, bZ g (ad 27) 96 isn, bI g (ad 31) 5 (upd sh sl t), bI g (ad 32) 5 si, bI g (ad 33) 5 sk, bI g (ad 34) 5 (upd ss sl (sz q)), bI g (ad 35) 120 (upd (rowF nu (24 * q) (24 * sl) i sn) (24 * sl + i) (nu (24 * q + i))), bZ g (ad 36) 120 (rowF isn (24 * q) (24 * sl) i sb)] := hw
                          refine lv_aload_n hx hb dX7_lay_188 rfl (lv_at hl 0 rfl) ?_
                          refine s_get (v := .ref (ad 36)) fb7 cf hw 0 rfl 36 rfl q957 (hf.2 36 rfl) dX7_lay_189 ?_
                          refine lv_bipush (v := 24) hx hb dX7_lay_192 (by decide) ?_
                          refine lv_iload_n hx hb dX7_lay_194 rfl (lv_at hl 1 rfl) ?_
                          refine lv_imul hx hb dX7_lay_195 ?_
                          refine lv_iload hx hb dX7_lay_196 (lv_at hl 5 rfl) ?_
                          refine lv_iadd hx hb dX7_lay_198 ?_
                          refine lv_aload_n hx hb dX7_lay_199 rfl (lv_at hl 0 rfl) ?_
                          refine s_get (v := .ref (ad 27)) fb7 cf hw 0 rfl 27 rfl q948 (hf.2 27 rfl) dX7_lay_200 ?_
                          refine lv_bipush (v := 24) hx hb dX7_lay_203 (by decide) ?_
                          refine lv_iload_n hx hb dX7_lay_205 rfl (lv_at hl 3 rfl) ?_
                          refine lv_imul hx hb dX7_lay_206 ?_
                          refine lv_iload hx hb dX7_lay_207 (lv_at hl 5 rfl) ?_
                          refine lv_iadd hx hb dX7_lay_209 ?_
                          refine s_zald (j := (24 * q + i)) cf hw 5 rfl (ix24 q i) (by omega) rfl dX7_lay_210 ?_
                          refine s_zast (j := (24 * sl + i)) cf hw 11 rfl (ix24 sl i) (by omega) rfl (by rcases hb01 (24 * q + i) with z | z <;> rw [z] <;> rfl) dX7_lay_211 (fun H locs hw => ?_)
                          have hw : WD g A s H locs [bO a 7 fs, bI g (ad 0) 60 d, bI g (ad 24) 4 so, bI g (ad 25) 4 sz, bI g (ad 26) 96 nu, bZ g (ad 27) 96 isn, bI g (ad 31) 5 (upd sh sl t), bI g (ad 32) 5 si, bI g (ad 33) 5 sk, bI g (ad 34) 5 (upd ss sl (sz q)), bI g (ad 35) 120 (upd (rowF nu (24 * q) (24 * sl) i sn) (24 * sl + i) (nu (24 * q + i))), bZ g (ad 36) 120 (upd (rowF isn (24 * q) (24 * sl) i sb) (24 * sl + i) (isn (24 * q + i)))] := hw
                          refine lv_iinc (v := nI (i + 1)) (lv' := [(5, .int (nI (i + 1))), (0, .ref a), (1, .int (nI sl)), (2, .int t), (3, .int (nI q)), (4, .int (sh sl))]) hx hb dX7_lay_212 hl (k := 5) rfl (nI_1 i) (by decide) rfl (fun ls hl => ?_)
                          refine lv_goto (tgt := 157) hx hb dX7_lay_215 (by decide) ?_
                          exact ih157 (i + 1) (by omega) (by omega) _ _ _ hw (lv_sub hl [1, 2, 3, 4, 5, 0] rfl)
                    exact L157 25 0 (by omega) (by omega) _ _ _ hw (lv_sub hl [2, 3, 4, 5, 1, 0] rfl)
                · exact absurd (c39.symm.trans c86) (by decide)
              · refine lv_ldc hx hb hown (hts _ q1247) dX7_lay_66 ?_
                have hno : ¬ okLay d so x t (nI q) := fun z => z.2 ⟨c54, by rw [hclq]; exact Int32.not_le.mp c63⟩
                exact s_iret cf hr hlk () (by rw [show D_lay1 d so sh x t (nI q) = sh from if_neg hno, show D_lay3 d so si x t (nI q) = si from if_neg (fun z => hno z.1), show D_lay2 d so sk x t (nI q) = sk from if_neg (fun z => hno z.1), show D_lay4 d so sz ss x t (nI q) = ss from if_neg (fun z => hno z.1), show D_lay5 d so nu sn x t (nI q) = sn from if_neg (fun z => hno z.1), show D_lay5 d so isn sb x t (nI q) = sb from if_neg (fun z => hno z.1)]; exact hw) (by unfold R_lay; rw [if_neg (by grind), if_pos ⟨c54, by rw [hclq]; exact Int32.not_le.mp c63⟩]) (Nat.le_of_ble_eq_true rfl) (Nat.le_of_ble_eq_true rfl) dX7_lay_68 hQ
          · have c46 := b01_z c46
            refine lv_ldc hx hb hown (hts _ q1049) dX7_lay_49 ?_
            have hno : ¬ okLay d so x t k := by unfold okLay; grind
            exact s_iret cf hr hlk () (by rw [show D_lay1 d so sh x t k = sh from if_neg hno, show D_lay3 d so si x t k = si from if_neg (fun z => hno z.1), show D_lay2 d so sk x t k = sk from if_neg (fun z => hno z.1), show D_lay4 d so sz ss x t k = ss from if_neg (fun z => hno z.1), show D_lay5 d so nu sn x t k = sn from if_neg (fun z => hno z.1), show D_lay5 d so isn sb x t k = sb from if_neg (fun z => hno z.1)]; exact hw) (by unfold R_lay; rw [if_pos (by grind)]) (Nat.le_of_ble_eq_true rfl) (Nat.le_of_ble_eq_true rfl) dX7_lay_51 hQ
      · refine lv_aload_n hx hb dX7_lay_29 rfl (lv_at hl 0 rfl) ?_
        refine lv_iload_n hx hb dX7_lay_30 rfl (lv_at hl 3 rfl) ?_
        refine s_calli (runV cf (m_isHouse (d := d) hf k) hw [0, 1] (by decide) rfl km_X7_isHouse ki_X7_isHouse q1059 (run_recv (ci := 7) (T := TX7) (N := 39) hw 0 rfl rfl) rfl rfl hl.1 rfl dX7_lay_31) hw [0, 1] (by decide) rfl (fun _ => rfl) (fun r_12 u_10 H locs hp_11 hw => ?_)
        have hw : WD g A s H locs [bO a 7 fs, bI g (ad 0) 60 d, bI g (ad 24) 4 so, bI g (ad 25) 4 sz, bI g (ad 26) 96 nu, bZ g (ad 27) 96 isn, bI g (ad 31) 5 sh, bI g (ad 32) 5 si, bI g (ad 33) 5 sk, bI g (ad 34) 5 ss, bI g (ad 35) 120 sn, bZ g (ad 36) 120 sb] := hw
        subst hp_11
        refine lv_if_eq (tgt := 49) hx hb dX7_lay_34 (by decide) (fun c34 => ?_) (fun c34 => ?_)
        · have c34 := b01_z c34
          refine lv_ldc hx hb hown (hts _ q1049) dX7_lay_49 ?_
          have hno : ¬ okLay d so x t k := by unfold okLay; grind
          exact s_iret cf hr hlk () (by rw [show D_lay1 d so sh x t k = sh from if_neg hno, show D_lay3 d so si x t k = si from if_neg (fun z => hno z.1), show D_lay2 d so sk x t k = sk from if_neg (fun z => hno z.1), show D_lay4 d so sz ss x t k = ss from if_neg (fun z => hno z.1), show D_lay5 d so nu sn x t k = sn from if_neg (fun z => hno z.1), show D_lay5 d so isn sb x t k = sb from if_neg (fun z => hno z.1)]; exact hw) (by unfold R_lay; rw [if_pos (by grind)]) (Nat.le_of_ble_eq_true rfl) (Nat.le_of_ble_eq_true rfl) dX7_lay_51 hQ
        · have c34 := b01_n c34
          refine lv_iload_n hx hb dX7_lay_37 rfl (lv_at hl 2 rfl) ?_
          refine lv_iconst (v := 2) hx hb dX7_lay_38 (by decide) ?_
          refine lv_icmp_ne (tgt := 52) hx hb dX7_lay_39 (by decide) (fun c39 => ?_) (fun c39 => ?_)
          · refine lv_iload_n hx hb dX7_lay_52 rfl (lv_at hl 2 rfl) ?_
            refine lv_iconst (v := 2) hx hb dX7_lay_53 (by decide) ?_
            refine lv_icmp_ne (tgt := 69) hx hb dX7_lay_54 (by decide) (fun c54 => ?_) (fun c54 => ?_)
            · obtain ⟨j, hjn, hxj, hclj⟩ := isH_nat hn hn10 c34
              subst hxj
              have hok : okLay d so x t (nI j) := ⟨by grind, by grind⟩
              obtain ⟨sl, hsl, hslx⟩ := rng_nat (m := 4) (by omega) c9.1 c9.2
              subst hslx
              have hcls : (nI sl).toNatClampNeg = sl := nI_clamp (by omega)
              refine lv_aload_n hx hb dX7_lay_69 rfl (lv_at hl 0 rfl) ?_
              refine s_get (v := .ref (ad 31)) fb7 cf hw 0 rfl 31 rfl q952 (hf.2 31 rfl) dX7_lay_70 ?_
              refine lv_iload_n hx hb dX7_lay_73 rfl (lv_at hl 1 rfl) ?_
              refine s_iald (j := sl) cf hw 6 rfl (rfl) (by omega) rfl dX7_lay_74 ?_
              refine lv_istore (lv' := [(4, .int (sh sl)), (0, .ref a), (1, .int (nI sl)), (2, .int t), (3, .int (nI j))]) hx hb dX7_lay_75 hl (by decide) rfl (fun ls hl => ?_)
              refine lv_aload_n hx hb dX7_lay_77 rfl (lv_at hl 1 rfl) ?_
              refine s_get (v := .ref (ad 31)) fb7 cf hw 0 rfl 31 rfl q952 (hf.2 31 rfl) dX7_lay_78 ?_
              refine lv_iload_n hx hb dX7_lay_81 rfl (lv_at hl 2 rfl) ?_
              refine lv_iload_n hx hb dX7_lay_82 rfl (lv_at hl 3 rfl) ?_
              refine s_iast (j := sl) cf hw 6 rfl (rfl) (by omega) rfl dX7_lay_83 (fun H locs hw => ?_)
              have hw : WD g A s H locs [bO a 7 fs, bI g (ad 0) 60 d, bI g (ad 24) 4 so, bI g (ad 25) 4 sz, bI g (ad 26) 96 nu, bZ g (ad 27) 96 isn, bI g (ad 31) 5 (upd sh sl t), bI g (ad 32) 5 si, bI g (ad 33) 5 sk, bI g (ad 34) 5 ss, bI g (ad 35) 120 sn, bZ g (ad 36) 120 sb] := hw
              refine lv_iload_n hx hb dX7_lay_84 rfl (lv_at hl 3 rfl) ?_
              refine lv_iconst (v := 1) hx hb dX7_lay_85 (by decide) ?_
              refine lv_icmp_ne (tgt := 137) hx hb dX7_lay_86 (by decide) (fun c86 => ?_) (fun c86 => ?_)
              · exact absurd c26 c86
              · refine lv_aload_n hx hb dX7_lay_89 rfl (lv_at hl 1 rfl) ?_
                refine s_get (v := .ref (ad 33)) fb7 cf hw 0 rfl 33 rfl q954 (hf.2 33 rfl) dX7_lay_90 ?_
                refine lv_iload_n hx hb dX7_lay_93 rfl (lv_at hl 2 rfl) ?_
                refine lv_aload_n hx hb dX7_lay_94 rfl (lv_at hl 1 rfl) ?_
                refine lv_iload_n hx hb dX7_lay_95 rfl (lv_at hl 4 rfl) ?_
                refine lv_iconst (v := 0) hx hb dX7_lay_96 (by decide) ?_
                refine s_calli (runV cf (m_of (d := d) hf j 0 (by omega)) hw [0, 1] (by decide) rfl km_X7_of ki_X7_of q1076 (run_recv (ci := 7) (T := TX7) (N := 39) hw 0 rfl rfl) rfl rfl hl.1 rfl dX7_lay_97) hw [0, 1] (by decide) rfl (fun _ => rfl) (fun r_15 u_13 H locs hp_14 hw => ?_)
                have hw : WD g A s H locs [bO a 7 fs, bI g (ad 0) 60 d, bI g (ad 24) 4 so, bI g (ad 25) 4 sz, bI g (ad 26) 96 nu, bZ g (ad 27) 96 isn, bI g (ad 31) 5 (upd sh sl t), bI g (ad 32) 5 si, bI g (ad 33) 5 sk, bI g (ad 34) 5 ss, bI g (ad 35) 120 sn, bZ g (ad 36) 120 sb] := hw
                subst hp_14
                refine s_iast (j := sl) cf hw 8 rfl (rfl) (by omega) rfl dX7_lay_100 (fun H locs hw => ?_)
                have hw : WD g A s H locs [bO a 7 fs, bI g (ad 0) 60 d, bI g (ad 24) 4 so, bI g (ad 25) 4 sz, bI g (ad 26) 96 nu, bZ g (ad 27) 96 isn, bI g (ad 31) 5 (upd sh sl t), bI g (ad 32) 5 si, bI g (ad 33) 5 (upd sk sl (d (10 + 5 * j + 0))), bI g (ad 34) 5 ss, bI g (ad 35) 120 sn, bZ g (ad 36) 120 sb] := hw
                refine lv_aload_n hx hb dX7_lay_101 rfl (lv_at hl 1 rfl) ?_
                refine s_get (v := .ref (ad 32)) fb7 cf hw 0 rfl 32 rfl q953 (hf.2 32 rfl) dX7_lay_102 ?_
                refine lv_iload_n hx hb dX7_lay_105 rfl (lv_at hl 2 rfl) ?_
                refine lv_aload_n hx hb dX7_lay_106 rfl (lv_at hl 1 rfl) ?_
                refine lv_iload_n hx hb dX7_lay_107 rfl (lv_at hl 4 rfl) ?_
                refine lv_iconst (v := 0) hx hb dX7_lay_108 (by decide) ?_
                refine s_calli (runV cf (m_of (d := d) hf j 0 (by omega)) hw [0, 1] (by decide) rfl km_X7_of ki_X7_of q1076 (run_recv (ci := 7) (T := TX7) (N := 39) hw 0 rfl rfl) rfl rfl hl.1 rfl dX7_lay_109) hw [0, 1] (by decide) rfl (fun _ => rfl) (fun r_18 u_16 H locs hp_17 hw => ?_)
                have hw : WD g A s H locs [bO a 7 fs, bI g (ad 0) 60 d, bI g (ad 24) 4 so, bI g (ad 25) 4 sz, bI g (ad 26) 96 nu, bZ g (ad 27) 96 isn, bI g (ad 31) 5 (upd sh sl t), bI g (ad 32) 5 si, bI g (ad 33) 5 (upd sk sl (d (10 + 5 * j + 0))), bI g (ad 34) 5 ss, bI g (ad 35) 120 sn, bZ g (ad 36) 120 sb] := hw
                subst hp_17
                refine lv_aload_n hx hb dX7_lay_112 rfl (lv_at hl 1 rfl) ?_
                refine lv_iload_n hx hb dX7_lay_113 rfl (lv_at hl 4 rfl) ?_
                refine lv_iconst (v := 1) hx hb dX7_lay_114 (by decide) ?_
                refine s_calli (runV cf (m_of (d := d) hf j 1 (by omega)) hw [0, 1] (by decide) rfl km_X7_of ki_X7_of q1076 (run_recv (ci := 7) (T := TX7) (N := 39) hw 0 rfl rfl) rfl rfl hl.1 rfl dX7_lay_115) hw [0, 1] (by decide) rfl (fun _ => rfl) (fun r_21 u_19 H locs hp_20 hw => ?_)
                have hw : WD g A s H locs [bO a 7 fs, bI g (ad 0) 60 d, bI g (ad 24) 4 so, bI g (ad 25) 4 sz, bI g (ad 26) 96 nu, bZ g (ad 27) 96 isn, bI g (ad 31) 5 (upd sh sl t), bI g (ad 32) 5 si, bI g (ad 33) 5 (upd sk sl (d (10 + 5 * j + 0))), bI g (ad 34) 5 ss, bI g (ad 35) 120 sn, bZ g (ad 36) 120 sb] := hw
                subst hp_20
                refine lv_aload_n hx hb dX7_lay_118 rfl (lv_at hl 1 rfl) ?_
                refine lv_iload_n hx hb dX7_lay_119 rfl (lv_at hl 4 rfl) ?_
                refine lv_iconst (v := 3) hx hb dX7_lay_120 (by decide) ?_
                refine s_calli (runV cf (m_of (d := d) hf j 3 (by omega)) hw [0, 1] (by decide) rfl km_X7_of ki_X7_of q1076 (run_recv (ci := 7) (T := TX7) (N := 39) hw 0 rfl rfl) rfl rfl hl.1 rfl dX7_lay_121) hw [0, 1] (by decide) rfl (fun _ => rfl) (fun r_24 u_22 H locs hp_23 hw => ?_)
                have hw : WD g A s H locs [bO a 7 fs, bI g (ad 0) 60 d, bI g (ad 24) 4 so, bI g (ad 25) 4 sz, bI g (ad 26) 96 nu, bZ g (ad 27) 96 isn, bI g (ad 31) 5 (upd sh sl t), bI g (ad 32) 5 si, bI g (ad 33) 5 (upd sk sl (d (10 + 5 * j + 0))), bI g (ad 34) 5 ss, bI g (ad 35) 120 sn, bZ g (ad 36) 120 sb] := hw
                subst hp_23
                refine lv_aload_n hx hb dX7_lay_124 rfl (lv_at hl 1 rfl) ?_
                refine lv_iload_n hx hb dX7_lay_125 rfl (lv_at hl 4 rfl) ?_
                refine lv_iconst (v := 4) hx hb dX7_lay_126 (by decide) ?_
                refine s_calli (runV cf (m_of (d := d) hf j 4 (by omega)) hw [0, 1] (by decide) rfl km_X7_of ki_X7_of q1076 (run_recv (ci := 7) (T := TX7) (N := 39) hw 0 rfl rfl) rfl rfl hl.1 rfl dX7_lay_127) hw [0, 1] (by decide) rfl (fun _ => rfl) (fun r_27 u_25 H locs hp_26 hw => ?_)
                have hw : WD g A s H locs [bO a 7 fs, bI g (ad 0) 60 d, bI g (ad 24) 4 so, bI g (ad 25) 4 sz, bI g (ad 26) 96 nu, bZ g (ad 27) 96 isn, bI g (ad 31) 5 (upd sh sl t), bI g (ad 32) 5 si, bI g (ad 33) 5 (upd sk sl (d (10 + 5 * j + 0))), bI g (ad 34) 5 ss, bI g (ad 35) 120 sn, bZ g (ad 36) 120 sb] := hw
                subst hp_26
                refine s_calli (runS cf (m_worthOf (d (10 + 5 * j + 0)) (d (10 + 5 * j + 1)) (d (10 + 5 * j + 3)) (d (10 + 5 * j + 4))) hw [] (by decide) rfl km_X7_worthOf ks_X7_worthOf q1104 rfl rfl hl.1 rfl dX7_lay_130) hw [] (by decide) rfl (fun _ => rfl) (fun r_30 u_28 H locs hp_29 hw => ?_)
                have hw : WD g A s H locs [bO a 7 fs, bI g (ad 0) 60 d, bI g (ad 24) 4 so, bI g (ad 25) 4 sz, bI g (ad 26) 96 nu, bZ g (ad 27) 96 isn, bI g (ad 31) 5 (upd sh sl t), bI g (ad 32) 5 si, bI g (ad 33) 5 (upd sk sl (d (10 + 5 * j + 0))), bI g (ad 34) 5 ss, bI g (ad 35) 120 sn, bZ g (ad 36) 120 sb] := hw
                subst hp_29
                refine s_iast (j := sl) cf hw 7 rfl (rfl) (by omega) rfl dX7_lay_133 (fun H locs hw => ?_)
                have hw : WD g A s H locs [bO a 7 fs, bI g (ad 0) 60 d, bI g (ad 24) 4 so, bI g (ad 25) 4 sz, bI g (ad 26) 96 nu, bZ g (ad 27) 96 isn, bI g (ad 31) 5 (upd sh sl t), bI g (ad 32) 5 (upd si sl (worthF (d (10 + 5 * j + 0)) (d (10 + 5 * j + 1)) (d (10 + 5 * j + 3)) (d (10 + 5 * j + 4)))), bI g (ad 33) 5 (upd sk sl (d (10 + 5 * j + 0))), bI g (ad 34) 5 ss, bI g (ad 35) 120 sn, bZ g (ad 36) 120 sb] := hw
                refine lv_goto (tgt := 228) hx hb dX7_lay_134 (by decide) ?_
                refine lv_iload hx hb dX7_lay_228 (lv_at hl 0 rfl) ?_
                exact s_iret cf hr hlk () (by rw [show D_lay1 d so sh (nI sl) t (nI j) = upd sh sl t from (if_pos hok).trans (by rw [hcls]), show D_lay3 d so si (nI sl) t (nI j) = upd si sl (worthF (d (10 + 5 * j + 0)) (d (10 + 5 * j + 1)) (d (10 + 5 * j + 3)) (d (10 + 5 * j + 4))) from (if_pos ⟨hok, fun z => absurd (c26.symm.trans z) (by decide)⟩).trans (by rw [hcls, if_pos c26, hclj]), show D_lay2 d so sk (nI sl) t (nI j) = upd sk sl (d (10 + 5 * j + 0)) from (if_pos ⟨hok, c26⟩).trans (by rw [hcls, hclj]), show D_lay4 d so sz ss (nI sl) t (nI j) = ss from if_neg (fun z => absurd (c26.symm.trans z.2) (by decide)), show D_lay5 d so nu sn (nI sl) t (nI j) = sn from if_neg (fun z => absurd (c26.symm.trans z.2) (by decide)), show D_lay5 d so isn sb (nI sl) t (nI j) = sb from if_neg (fun z => absurd (c26.symm.trans z.2) (by decide))]; exact hw) (by unfold R_lay; rw [if_neg hok.1, if_neg hok.2, hcls]) (Nat.le_of_ble_eq_true rfl) (Nat.le_of_ble_eq_true rfl) dX7_lay_230 hQ
            · exact absurd (c26.symm.trans c54) (by decide)
          · exact absurd (c26.symm.trans c39) (by decide)
set_option maxRecDepth 100000 in
set_option maxHeartbeats 4000000 in
theorem m_like {l : Launch} {g : GG} {a : Nat} {ad : Nat → Nat} {fs : List Value} (hf : MF ad fs) {d as_ ap so sz nu isn cdf kf sf pl : DD} {ft : TXC} (hT : TxOK d kf sf cdf 0 ft) {n : Nat} (hn : d 0 = nI n) (hn10 : n ≤ 10) {ni : Nat} (hni : d 1 = nI ni) (hni9 : ni ≤ 9999) (hsz : SzOK sz) (x w : Int32) : Ct l g yX7_like cX7_like 5 (Option.some Jvm.ClassFile.FieldType.int) 6 0 0 [.ref a, .int x, .int w] [bO a 7 fs, bI g (ad 0) 60 d, bI g (ad 2) 60 as_, bI g (ad 5) 1344 cdf, bI g (ad 6) 14 kf, bI g (ad 7) 14 sf, bI g (ad 9) 96 pl, bI g (ad 24) 4 so, bI g (ad 25) 4 sz, bI g (ad 26) 96 nu, bZ g (ad 27) 96 isn, bI g (ad 28) 10 ap] (QI g (fun r (_ : DD × DD × DD) => r = R_like ft d so sz nu isn x w) (fun u => [bO a 7 fs, bI g (ad 0) 60 d, bI g (ad 2) 60 u.1, bI g (ad 5) 1344 cdf, bI g (ad 6) 14 kf, bI g (ad 7) 14 sf, bI g (ad 9) 96 u.2.1, bI g (ad 24) 4 so, bI g (ad 25) 4 sz, bI g (ad 26) 96 nu, bZ g (ad 27) 96 isn, bI g (ad 28) 10 u.2.2])) := by
  refine Ct.of (by decide) rfl ?_
  intro p e s m args below meth c A H locs ls Qf cf hr hlk hnm hQ hw hl
  have hx := cf.1
  have hb := cf.2.1
  have hml := cf.2.2.1
  have hown := cf.2.2.2.1
  have hts := cf.2.2.2.2
  have hw : WD g A s H locs [bO a 7 fs, bI g (ad 0) 60 d, bI g (ad 2) 60 as_, bI g (ad 5) 1344 cdf, bI g (ad 6) 14 kf, bI g (ad 7) 14 sf, bI g (ad 9) 96 pl, bI g (ad 24) 4 so, bI g (ad 25) 4 sz, bI g (ad 26) 96 nu, bZ g (ad 27) 96 isn, bI g (ad 28) 10 ap] := hw
  have hl : lv_has ls 5 [(0, .ref a), (1, .int x), (2, .int w)] := hl
  refine lv_iload_n hx hb dX7_like_0 rfl (lv_at hl 1 rfl) ?_
  refine s_calli (runS cf (m_isSheet x) hw [] (by decide) rfl km_X7_isSheet ks_X7_isSheet q1243 rfl rfl hl.1 rfl dX7_like_1) hw [] (by decide) rfl (fun _ => rfl) (fun r_3 u_1 H locs hp_2 hw => ?_)
  have hw : WD g A s H locs [bO a 7 fs, bI g (ad 0) 60 d, bI g (ad 2) 60 as_, bI g (ad 5) 1344 cdf, bI g (ad 6) 14 kf, bI g (ad 7) 14 sf, bI g (ad 9) 96 pl, bI g (ad 24) 4 so, bI g (ad 25) 4 sz, bI g (ad 26) 96 nu, bZ g (ad 27) 96 isn, bI g (ad 28) 10 ap] := hw
  subst hp_2
  refine lv_if_eq (tgt := 17) hx hb dX7_like_4 (by decide) (fun c4 => ?_) (fun c4 => ?_)
  · have c4 := b01_z c4
    refine lv_ldc hx hb hown (hts _ q1049) dX7_like_17 ?_
    exact s_iret cf hr hlk (as_, pl, ap) hw (by unfold R_like; rw [if_neg (by grind)]) (Nat.le_of_ble_eq_true rfl) (Nat.le_of_ble_eq_true rfl) dX7_like_19 hQ
  · have c4 := b01_n c4
    refine lv_iload_n hx hb dX7_like_7 rfl (lv_at hl 2 rfl) ?_
    refine lv_i2l (v := (w : Int32).toInt64) hx hb dX7_like_8 rfl ?_
    refine lv_lconst (v := (0 : Int32).toInt64) hx hb dX7_like_9 (by decide) ?_
    refine lv_lconst (v := (1 : Int32).toInt64) hx hb dX7_like_10 (by decide) ?_
    refine s_calli (runS cf (m_in (w : Int32) (0 : Int32) (1 : Int32)) hw [] (by decide) rfl km_X7_in ks_X7_in q1045 rfl rfl hl.1 rfl dX7_like_11) hw [] (by decide) rfl (fun _ => rfl) (fun r_6 u_4 H locs hp_5 hw => ?_)
    have hw : WD g A s H locs [bO a 7 fs, bI g (ad 0) 60 d, bI g (ad 2) 60 as_, bI g (ad 5) 1344 cdf, bI g (ad 6) 14 kf, bI g (ad 7) 14 sf, bI g (ad 9) 96 pl, bI g (ad 24) 4 so, bI g (ad 25) 4 sz, bI g (ad 26) 96 nu, bZ g (ad 27) 96 isn, bI g (ad 28) 10 ap] := hw
    subst hp_5
    refine lv_if_ne (tgt := 20) hx hb dX7_like_14 (by decide) (fun c14 => ?_) (fun c14 => ?_)
    · have c14 := b01_n c14
      obtain ⟨k, hk, hkx⟩ := rng_nat (m := 3) (by omega) c4.1 c4.2
      subst hkx
      have hclk : (nI k).toNatClampNeg = k := nI_clamp (by omega)
      obtain ⟨mm, hm24, hm⟩ := hsz k (by omega)
      refine lv_aload_n hx hb dX7_like_20 rfl (lv_at hl 0 rfl) ?_
      refine s_get (v := .ref (ad 24)) fb7 cf hw 0 rfl 24 rfl q945 (hf.2 24 rfl) dX7_like_21 ?_
      refine lv_iload_n hx hb dX7_like_24 rfl (lv_at hl 1 rfl) ?_
      refine s_iald (j := k) cf hw 7 rfl (rfl) (by omega) rfl dX7_like_25 ?_
      refine lv_if_ge (tgt := 32) hx hb dX7_like_26 (by decide) (fun c26 => ?_) (fun c26 => ?_)
      · refine lv_aload_n hx hb dX7_like_32 rfl (lv_at hl 0 rfl) ?_
        refine s_get (v := .ref (ad 0)) fb7 cf hw 0 rfl 0 rfl q921 (hf.2 0 rfl) dX7_like_33 ?_
        refine lv_iconst (v := 0) hx hb dX7_like_36 (by decide) ?_
        refine s_iald (j := 0) cf hw 1 rfl (rfl) (by decide) rfl dX7_like_37 ?_
        refine lv_if_ne (tgt := 44) hx hb dX7_like_38 (by decide) (fun c38 => ?_) (fun c38 => ?_)
        · have hn0 : 0 < n := by rcases Nat.eq_zero_or_pos n with z | z; exact absurd (by rw [hn, z]; rfl) c38; exact z
          refine lv_iconst (v := 0) hx hb dX7_like_44 (by decide) ?_
          refine lv_istore_n (lv' := [(3, .int 0), (0, .ref a), (1, .int (nI k)), (2, .int w)]) hx hb dX7_like_45 rfl hl (by decide) rfl (fun ls hl => ?_)
          have L46 : ∀ (fu : Nat) (i : Nat), (i ≤ 10) → (10 < i + fu) → ∀ (H : Heap) (locs : List Loc) (ls : Array Slot), WD g A s H locs [bO a 7 fs, bI g (ad 0) 60 d, bI g (ad 2) 60 as_, bI g (ad 5) 1344 cdf, bI g (ad 6) 14 kf, bI g (ad 7) 14 sf, bI g (ad 9) 96 pl, bI g (ad 24) 4 so, bI g (ad 25) 4 sz, bI g (ad 26) 96 nu, bZ g (ad 27) 96 isn, bI g (ad 28) 10 (fillF 0 0 i ap)] → lv_has ls 5 [(0, .ref a), (1, .int (nI k)), (2, .int w), (3, .int (nI i))] → W p l e (rmx 6 0 0) s m args below meth c H locs 0 0 Qf (F0 m 46 ls []) := by
            intro fu
            induction fu with
            | zero => intro i hi hfu; exfalso; omega
            | succ fu ih46 =>
              intro i hi hfu H locs ls hw hl
              refine lv_iload_n hx hb dX7_like_46 rfl (lv_at hl 3 rfl) ?_
              refine lv_bipush (v := 10) hx hb dX7_like_47 (by decide) ?_
              refine lv_icmp_ge (tgt := 65) hx hb dX7_like_49 (by decide) (fun c49 => ?_) (fun c49 => ?_)
              · have hi2 : i = 10 := by have := nI_le_of (n := 10) (by omega) c49 (by omega); omega
                have hw : WD g A s H locs [bO a 7 fs, bI g (ad 0) 60 d, bI g (ad 2) 60 as_, bI g (ad 5) 1344 cdf, bI g (ad 6) 14 kf, bI g (ad 7) 14 sf, bI g (ad 9) 96 pl, bI g (ad 24) 4 so, bI g (ad 25) 4 sz, bI g (ad 26) 96 nu, bZ g (ad 27) 96 isn, bI g (ad 28) 10 (fun _ => 0)] := hw.cong 11 rfl (fun j hj => by rw [hi2, fillF_eq, if_pos (by omega)])
                refine lv_aload_n hx hb dX7_like_65 rfl (lv_at hl 0 rfl) ?_
                refine s_get (v := .ref (ad 0)) fb7 cf hw 0 rfl 0 rfl q921 (hf.2 0 rfl) dX7_like_66 ?_
                refine lv_aload_n hx hb dX7_like_69 rfl (lv_at hl 0 rfl) ?_
                refine s_get (v := .ref (ad 2)) fb7 cf hw 0 rfl 2 rfl q923 (hf.2 2 rfl) dX7_like_70 ?_
                refine s_callv (runS cf (m_copies (x := ad 0) (y := ad 2) (f := d) (t := as_)) hw [1, 2] (by decide) rfl km_X7_copies ks_X7_copies q1203 rfl rfl hl.1 rfl dX7_like_73) hw [1, 2] (by decide) rfl (fun _ => rfl) (fun u_7 H locs hp_8 hw => ?_)
                have hw : WD g A s H locs [bO a 7 fs, bI g (ad 0) 60 d, bI g (ad 2) 60 d, bI g (ad 5) 1344 cdf, bI g (ad 6) 14 kf, bI g (ad 7) 14 sf, bI g (ad 9) 96 pl, bI g (ad 24) 4 so, bI g (ad 25) 4 sz, bI g (ad 26) 96 nu, bZ g (ad 27) 96 isn, bI g (ad 28) 10 (fun _ => 0)] := hw
                refine lv_iconst (v := 0) hx hb dX7_like_76 (by decide) ?_
                refine lv_istore_n (lv' := [(3, .int 0), (0, .ref a), (1, .int (nI k)), (2, .int w)]) hx hb dX7_like_77 rfl hl (by decide) rfl (fun ls hl => ?_)
                have L78 : ∀ (fu : Nat) (i : Nat) (pl : DD), (i ≤ mm) → (mm < i + fu) → ∀ (H : Heap) (locs : List Loc) (ls : Array Slot), WD g A s H locs [bO a 7 fs, bI g (ad 0) 60 (nightsF ft i d), bI g (ad 2) 60 d, bI g (ad 5) 1344 cdf, bI g (ad 6) 14 kf, bI g (ad 7) 14 sf, bI g (ad 9) 96 pl, bI g (ad 24) 4 so, bI g (ad 25) 4 sz, bI g (ad 26) 96 nu, bZ g (ad 27) 96 isn, bI g (ad 28) 10 (likeA ft d nu isn (24 * k) i (fun _ => 0))] → lv_has ls 5 [(0, .ref a), (1, .int (nI k)), (2, .int w), (3, .int (nI i))] → W p l e (rmx 6 0 0) s m args below meth c H locs 0 0 Qf (F0 m 78 ls []) := by
                  intro fu
                  induction fu with
                  | zero => intro i pl hi hfu3; exfalso; omega
                  | succ fu ih78 =>
                    intro i pl hi hfu3 H locs ls hw hl
                    refine lv_iload_n hx hb dX7_like_78 rfl (lv_at hl 3 rfl) ?_
                    refine lv_aload_n hx hb dX7_like_79 rfl (lv_at hl 0 rfl) ?_
                    refine s_get (v := .ref (ad 25)) fb7 cf hw 0 rfl 25 rfl q946 (hf.2 25 rfl) dX7_like_80 ?_
                    refine lv_iload_n hx hb dX7_like_83 rfl (lv_at hl 1 rfl) ?_
                    refine s_iald (j := k) cf hw 8 rfl (rfl) (by omega) rfl dX7_like_84 ?_
                    refine lv_icmp_ge (tgt := 164) hx hb dX7_like_85 (by decide) (fun c85 => ?_) (fun c85 => ?_)
                    · have hi2 : mm = i := by rw [hm] at c85; have := nI_le_of (by omega) c85 (by omega); omega
                      have hw : WD g A s H locs [bO a 7 fs, bI g (ad 0) 60 (nightsF ft i d), bI g (ad 2) 60 d, bI g (ad 5) 1344 cdf, bI g (ad 6) 14 kf, bI g (ad 7) 14 sf, bI g (ad 9) 96 pl, bI g (ad 24) 4 so, bI g (ad 25) 4 sz, bI g (ad 26) 96 nu, bZ g (ad 27) 96 isn, bI g (ad 28) 10 (likeA ft d nu isn (24 * k) mm (fun _ => 0))] := by rw [hi2]; exact hw
                      refine lv_aload_n hx hb dX7_like_164 rfl (lv_at hl 0 rfl) ?_
                      refine s_get (v := .ref (ad 2)) fb7 cf hw 0 rfl 2 rfl q923 (hf.2 2 rfl) dX7_like_165 ?_
                      refine lv_aload_n hx hb dX7_like_168 rfl (lv_at hl 0 rfl) ?_
                      refine s_get (v := .ref (ad 0)) fb7 cf hw 0 rfl 0 rfl q921 (hf.2 0 rfl) dX7_like_169 ?_
                      refine s_callv (runS cf (m_copies (x := ad 2) (y := ad 0) (f := d) (t := nightsF ft i d)) hw [2, 1] (by decide) rfl km_X7_copies ks_X7_copies q1203 rfl rfl hl.1 rfl dX7_like_172) hw [2, 1] (by decide) rfl (fun _ => rfl) (fun u_9 H locs hp_10 hw => ?_)
                      have hw : WD g A s H locs [bO a 7 fs, bI g (ad 0) 60 d, bI g (ad 2) 60 d, bI g (ad 5) 1344 cdf, bI g (ad 6) 14 kf, bI g (ad 7) 14 sf, bI g (ad 9) 96 pl, bI g (ad 24) 4 so, bI g (ad 25) 4 sz, bI g (ad 26) 96 nu, bZ g (ad 27) 96 isn, bI g (ad 28) 10 (likeA ft d nu isn (24 * k) mm (fun _ => 0))] := hw
                      refine lv_iconst (v := 0) hx hb dX7_like_175 (by decide) ?_
                      refine lv_istore_n (lv' := [(3, .int 0), (0, .ref a), (1, .int (nI k)), (2, .int w)]) hx hb dX7_like_176 rfl hl (by decide) rfl (fun ls hl => ?_)
                      refine lv_iconst (v := 1) hx hb dX7_like_177 (by decide) ?_
                      refine lv_istore (lv' := [(4, .int 1), (3, .int 0), (0, .ref a), (1, .int (nI k)), (2, .int w)]) hx hb dX7_like_178 hl (by decide) rfl (fun ls hl => ?_)
                      have L180 : ∀ (fu : Nat) (h : Nat), (1 ≤ h) → (h ≤ n) → (n < h + fu) → ∀ (H : Heap) (locs : List Loc) (ls : Array Slot), WD g A s H locs [bO a 7 fs, bI g (ad 0) 60 d, bI g (ad 2) 60 d, bI g (ad 5) 1344 cdf, bI g (ad 6) 14 kf, bI g (ad 7) 14 sf, bI g (ad 9) 96 pl, bI g (ad 24) 4 so, bI g (ad 25) 4 sz, bI g (ad 26) 96 nu, bZ g (ad 27) 96 isn, bI g (ad 28) 10 (likeA ft d nu isn (24 * k) mm (fun _ => 0))] → lv_has ls 5 [(0, .ref a), (1, .int (nI k)), (2, .int w), (3, .int (nI (likeB (likeA ft d nu isn (24 * k) mm (fun _ => 0)) h))), (4, .int (nI h))] → W p l e (rmx 6 0 0) s m args below meth c H locs 0 0 Qf (F0 m 180 ls []) := by
                        intro fu
                        induction fu with
                        | zero => intro h h1 hh hfh; exfalso; omega
                        | succ fu ih180 =>
                          intro h h1 hh hfh H locs ls hw hl
                          refine lv_iload hx hb dX7_like_180 (lv_at hl 4 rfl) ?_
                          refine lv_aload_n hx hb dX7_like_182 rfl (lv_at hl 0 rfl) ?_
                          refine s_get (v := .ref (ad 0)) fb7 cf hw 0 rfl 0 rfl q921 (hf.2 0 rfl) dX7_like_183 ?_
                          refine lv_iconst (v := 0) hx hb dX7_like_186 (by decide) ?_
                          refine s_iald (j := 0) cf hw 1 rfl (rfl) (by decide) rfl dX7_like_187 ?_
                          refine lv_icmp_ge (tgt := 220) hx hb dX7_like_188 (by decide) (fun c188 => ?_) (fun c188 => ?_)
                          · have hh2 : n = h := by rw [hn] at c188; have := nI_le_of (by omega) c188 (by omega); omega
                            have hlb := likeB_lt (likeA ft d nu isn (24 * k) mm (fun _ => 0)) h h1
                            refine lv_iload_n hx hb dX7_like_220 rfl (lv_at hl 2 rfl) ?_
                            refine lv_if_ne (tgt := 228) hx hb dX7_like_221 (by decide) (fun c221 => ?_) (fun c221 => ?_)
                            · refine lv_aload_n hx hb dX7_like_228 rfl (lv_at hl 0 rfl) ?_
                              refine s_get (v := .ref (ad 28)) fb7 cf hw 0 rfl 28 rfl q949 (hf.2 28 rfl) dX7_like_229 ?_
                              refine lv_iload_n hx hb dX7_like_232 rfl (lv_at hl 3 rfl) ?_
                              refine s_iald (j := (likeB (likeA ft d nu isn (24 * k) mm (fun _ => 0)) h)) cf hw 11 rfl (rfl) (by omega) rfl dX7_like_233 ?_
                              exact s_iret cf hr hlk (d, pl, likeA ft d nu isn (24 * k) mm (fun _ => 0)) hw (by unfold R_like; rw [if_pos ⟨c4, c14⟩, hclk, if_neg (Int32.not_lt.mpr c26), if_neg c38, hm, nI_clamp (by omega), nH_of hn hn10, if_neg c221, hh2]) (Nat.le_of_ble_eq_true rfl) (Nat.le_of_ble_eq_true rfl) dX7_like_234 hQ
                            · refine lv_iload_n hx hb dX7_like_224 rfl (lv_at hl 3 rfl) ?_
                              refine lv_goto (tgt := 234) hx hb dX7_like_225 (by decide) ?_
                              exact s_iret cf hr hlk (d, pl, likeA ft d nu isn (24 * k) mm (fun _ => 0)) hw (by unfold R_like; rw [if_pos ⟨c4, c14⟩, hclk, if_neg (Int32.not_lt.mpr c26), if_neg c38, hm, nI_clamp (by omega), nH_of hn hn10, if_pos c221, hh2]) (Nat.le_of_ble_eq_true rfl) (Nat.le_of_ble_eq_true rfl) dX7_like_234 hQ
                          · have hhl : h < n := by rw [hn] at c188; exact nI_lt_of (by omega) c188 (by omega)
                            have hlb := likeB_lt (likeA ft d nu isn (24 * k) mm (fun _ => 0)) h h1
                            refine lv_aload_n hx hb dX7_like_191 rfl (lv_at hl 0 rfl) ?_
                            refine s_get (v := .ref (ad 28)) fb7 cf hw 0 rfl 28 rfl q949 (hf.2 28 rfl) dX7_like_192 ?_
                            refine lv_iload hx hb dX7_like_195 (lv_at hl 4 rfl) ?_
                            refine s_iald (j := h) cf hw 11 rfl (rfl) (by omega) rfl dX7_like_197 ?_
                            refine lv_aload_n hx hb dX7_like_198 rfl (lv_at hl 0 rfl) ?_
                            refine s_get (v := .ref (ad 28)) fb7 cf hw 0 rfl 28 rfl q949 (hf.2 28 rfl) dX7_like_199 ?_
                            refine lv_iload_n hx hb dX7_like_202 rfl (lv_at hl 3 rfl) ?_
                            refine s_iald (j := (likeB (likeA ft d nu isn (24 * k) mm (fun _ => 0)) h)) cf hw 11 rfl (rfl) (by omega) rfl dX7_like_203 ?_
                            refine lv_icmp_ge (tgt := 212) hx hb dX7_like_204 (by decide) (fun c204 => ?_) (fun c204 => ?_)
                            · refine lv_iload_n hx hb dX7_like_212 rfl (lv_at hl 3 rfl) ?_
                              refine lv_topr (y := nI (likeB (likeA ft d nu isn (24 * k) mm (fun _ => 0)) (h + 1))) (by rw [likeB_s _ _ h1, if_neg (Int32.not_lt.mpr c204)]) ?_
                              refine lv_istore_n (lv' := [(3, .int (nI (likeB (likeA ft d nu isn (24 * k) mm (fun _ => 0)) (h + 1)))), (0, .ref a), (1, .int (nI k)), (2, .int w), (4, .int (nI h))]) hx hb dX7_like_213 rfl hl (by decide) rfl (fun ls hl => ?_)
                              refine lv_iinc (v := nI (h + 1)) (lv' := [(4, .int (nI (h + 1))), (3, .int (nI (likeB (likeA ft d nu isn (24 * k) mm (fun _ => 0)) (h + 1)))), (0, .ref a), (1, .int (nI k)), (2, .int w)]) hx hb dX7_like_214 hl (k := 4) rfl (nI_1 h) (by decide) rfl (fun ls hl => ?_)
                              refine lv_goto (tgt := 180) hx hb dX7_like_217 (by decide) ?_
                              exact ih180 (h + 1) (by omega) (by omega) (by omega) _ _ _ hw (lv_sub hl [2, 3, 4, 1, 0] rfl)
                            · refine lv_iload hx hb dX7_like_207 (lv_at hl 4 rfl) ?_
                              refine lv_goto (tgt := 213) hx hb dX7_like_209 (by decide) ?_
                              refine lv_topr (y := nI (likeB (likeA ft d nu isn (24 * k) mm (fun _ => 0)) (h + 1))) (by rw [likeB_s _ _ h1, if_pos (Int32.not_le.mp c204)]) ?_
                              refine lv_istore_n (lv' := [(3, .int (nI (likeB (likeA ft d nu isn (24 * k) mm (fun _ => 0)) (h + 1)))), (0, .ref a), (1, .int (nI k)), (2, .int w), (4, .int (nI h))]) hx hb dX7_like_213 rfl hl (by decide) rfl (fun ls hl => ?_)
                              refine lv_iinc (v := nI (h + 1)) (lv' := [(4, .int (nI (h + 1))), (3, .int (nI (likeB (likeA ft d nu isn (24 * k) mm (fun _ => 0)) (h + 1)))), (0, .ref a), (1, .int (nI k)), (2, .int w)]) hx hb dX7_like_214 hl (k := 4) rfl (nI_1 h) (by decide) rfl (fun ls hl => ?_)
                              refine lv_goto (tgt := 180) hx hb dX7_like_217 (by decide) ?_
                              exact ih180 (h + 1) (by omega) (by omega) (by omega) _ _ _ hw (lv_sub hl [2, 3, 4, 1, 0] rfl)
                      have hl : lv_has ls 5 [(4, .int 1), (3, .int (nI (likeB (likeA ft d nu isn (24 * k) mm (fun _ => 0)) 1))), (0, .ref a), (1, .int (nI k)), (2, .int w)] := by rw [likeB_1]; exact hl
                      exact L180 (n + 1) 1 (by omega) (by omega) (by omega) _ _ _ hw (lv_sub hl [2, 3, 4, 1, 0] rfl)
                    · have hlt : i < mm := by rw [hm] at c85; exact nI_lt_of (by omega) c85 (by omega)
                      have hd0 : nightsF ft i d 0 = nI n := by rw [nightsF_lo (by omega) (by omega) (by omega) (by omega) (by omega) (by omega)]; exact hn
                      have L154 : ∀ (H : Heap) (locs : List Loc) (ls : Array Slot), WD g A s H locs [bO a 7 fs, bI g (ad 0) 60 (nightsF ft i d), bI g (ad 2) 60 d, bI g (ad 5) 1344 cdf, bI g (ad 6) 14 kf, bI g (ad 7) 14 sf, bI g (ad 9) 96 pl, bI g (ad 24) 4 so, bI g (ad 25) 4 sz, bI g (ad 26) 96 nu, bZ g (ad 27) 96 isn, bI g (ad 28) 10 (likeA ft d nu isn (24 * k) (i + 1) (fun _ => 0))] → lv_has ls 5 [(0, .ref a), (1, .int (nI k)), (2, .int w), (3, .int (nI i))] → W p l e (rmx 6 0 0) s m args below meth c H locs 0 0 Qf (F0 m 154 ls []) := by
                        intro   H locs ls hw hl
                        refine lv_aload_n hx hb dX7_like_154 rfl (lv_at hl 0 rfl) ?_
                        refine s_callv (runV cf (m_nightGoes (d := nightsF ft i d) (cdf := cdf) (kf := kf) (sf := sf) (pl := pl) (ft := ft) hf (hT.of (nightsF_lo (by omega) (by omega) (by omega) (by omega) (by omega) (by omega))) (n := n) (by rw [nightsF_lo (by omega) (by omega) (by omega) (by omega) (by omega) (by omega)]; exact hn) hn10 (nightsF_1 hni i) (by omega)) hw [0, 1, 3, 4, 5, 6] (by decide) rfl km_X7_nightGoes ki_X7_nightGoes q1178 (run_recv (ci := 7) (T := TX7) (N := 39) hw 0 rfl rfl) rfl rfl hl.1 rfl dX7_like_155) hw [0, 1, 3, 4, 5, 6] (by decide) rfl (fun _ => rfl) (fun u_11 H locs hp_12 hw => ?_)
                        have hw : WD g A s H locs [bO a 7 fs, bI g (ad 0) 60 (nightF ft (nightsF ft i d)), bI g (ad 2) 60 d, bI g (ad 5) 1344 cdf, bI g (ad 6) 14 kf, bI g (ad 7) 14 sf, bI g (ad 9) 96 u_11, bI g (ad 24) 4 so, bI g (ad 25) 4 sz, bI g (ad 26) 96 nu, bZ g (ad 27) 96 isn, bI g (ad 28) 10 (likeA ft d nu isn (24 * k) (i + 1) (fun _ => 0))] := hw
                        refine lv_iinc (v := nI (i + 1)) (lv' := [(3, .int (nI (i + 1))), (0, .ref a), (1, .int (nI k)), (2, .int w)]) hx hb dX7_like_158 hl (k := 3) rfl (nI_1 i) (by decide) rfl (fun ls hl => ?_)
                        refine lv_goto (tgt := 78) hx hb dX7_like_161 (by decide) ?_
                        exact ih78 (i + 1) u_11 (by omega) (by omega) _ _ _ hw (lv_sub hl [1, 2, 3, 0] rfl)
                      refine lv_iconst (v := 0) hx hb dX7_like_88 (by decide) ?_
                      refine lv_istore (lv' := [(4, .int 0), (0, .ref a), (1, .int (nI k)), (2, .int w), (3, .int (nI i))]) hx hb dX7_like_89 hl (by decide) rfl (fun ls hl => ?_)
                      have L91 : ∀ (fu : Nat) (h : Nat), (h ≤ n) → (isn (24 * k + i) = 0 → h = 0) → (n < h + fu) → ∀ (H : Heap) (locs : List Loc) (ls : Array Slot), WD g A s H locs [bO a 7 fs, bI g (ad 0) 60 (nightsF ft i d), bI g (ad 2) 60 d, bI g (ad 5) 1344 cdf, bI g (ad 6) 14 kf, bI g (ad 7) 14 sf, bI g (ad 9) 96 pl, bI g (ad 24) 4 so, bI g (ad 25) 4 sz, bI g (ad 26) 96 nu, bZ g (ad 27) 96 isn, bI g (ad 28) 10 (itn (likeS nu (24 * k) (nightsF ft i d) i) h (likeA ft d nu isn (24 * k) i (fun _ => 0)))] → lv_has ls 5 [(0, .ref a), (1, .int (nI k)), (2, .int w), (3, .int (nI i)), (4, .int (nI h))] → W p l e (rmx 6 0 0) s m args below meth c H locs 0 0 Qf (F0 m 91 ls []) := by
                        intro fu
                        induction fu with
                        | zero => intro h hh hz hfh; exfalso; omega
                        | succ fu ih91 =>
                          intro h hh hz hfh H locs ls hw hl
                          refine lv_iload hx hb dX7_like_91 (lv_at hl 4 rfl) ?_
                          refine lv_aload_n hx hb dX7_like_93 rfl (lv_at hl 0 rfl) ?_
                          refine s_get (v := .ref (ad 0)) fb7 cf hw 0 rfl 0 rfl q921 (hf.2 0 rfl) dX7_like_94 ?_
                          refine lv_iconst (v := 0) hx hb dX7_like_97 (by decide) ?_
                          refine s_iald (j := 0) cf hw 1 rfl (rfl) (by decide) rfl dX7_like_98 ?_
                          refine lv_icmp_ge (tgt := 154) hx hb dX7_like_99 (by decide) (fun c99 => ?_) (fun c99 => ?_)
                          · have hh2 : n = h := by rw [hd0] at c99; have := nI_le_of (by omega) c99 (by omega); omega
                            have hnz : ¬ isn (24 * k + i) = 0 := fun z => by have := hz z; omega
                            have hw : WD g A s H locs [bO a 7 fs, bI g (ad 0) 60 (nightsF ft i d), bI g (ad 2) 60 d, bI g (ad 5) 1344 cdf, bI g (ad 6) 14 kf, bI g (ad 7) 14 sf, bI g (ad 9) 96 pl, bI g (ad 24) 4 so, bI g (ad 25) 4 sz, bI g (ad 26) 96 nu, bZ g (ad 27) 96 isn, bI g (ad 28) 10 (likeA ft d nu isn (24 * k) (i + 1) (fun _ => 0))] := by have q : likeA ft d nu isn (24 * k) (i + 1) (fun _ => 0) = itn (likeS nu (24 * k) (nightsF ft i d) i) h (likeA ft d nu isn (24 * k) i (fun _ => 0)) := (by show likeK ft d nu isn (24 * k) i (likeA ft d nu isn (24 * k) i (fun _ => 0)) = _; unfold likeK; rw [if_neg hnz, nH_of hn hn10, hh2]); rw [q]; exact hw
                            exact L154  _ _ _ hw (lv_sub hl [0, 1, 2, 3] rfl)
                          · have hhl : h < n := by rw [hd0] at c99; exact nI_lt_of (by omega) c99 (by omega)
                            refine lv_aload_n hx hb dX7_like_102 rfl (lv_at hl 0 rfl) ?_
                            refine s_get (v := .ref (ad 27)) fb7 cf hw 0 rfl 27 rfl q948 (hf.2 27 rfl) dX7_like_103 ?_
                            refine lv_bipush (v := 24) hx hb dX7_like_106 (by decide) ?_
                            refine lv_iload_n hx hb dX7_like_108 rfl (lv_at hl 1 rfl) ?_
                            refine lv_imul hx hb dX7_like_109 ?_
                            refine lv_iload_n hx hb dX7_like_110 rfl (lv_at hl 3 rfl) ?_
                            refine lv_iadd hx hb dX7_like_111 ?_
                            refine s_zald (j := (24 * k + i)) cf hw 10 rfl (ix24 k i) (by omega) rfl dX7_like_112 ?_
                            refine lv_if_eq (tgt := 154) hx hb dX7_like_113 (by decide) (fun c113 => ?_) (fun c113 => ?_)
                            · have hw : WD g A s H locs [bO a 7 fs, bI g (ad 0) 60 (nightsF ft i d), bI g (ad 2) 60 d, bI g (ad 5) 1344 cdf, bI g (ad 6) 14 kf, bI g (ad 7) 14 sf, bI g (ad 9) 96 pl, bI g (ad 24) 4 so, bI g (ad 25) 4 sz, bI g (ad 26) 96 nu, bZ g (ad 27) 96 isn, bI g (ad 28) 10 (likeA ft d nu isn (24 * k) (i + 1) (fun _ => 0))] := by have q : likeA ft d nu isn (24 * k) (i + 1) (fun _ => 0) = itn (likeS nu (24 * k) (nightsF ft i d) i) h (likeA ft d nu isn (24 * k) i (fun _ => 0)) := (by show likeK ft d nu isn (24 * k) i (likeA ft d nu isn (24 * k) i (fun _ => 0)) = _; unfold likeK; rw [if_pos c113, hz c113]; rfl); rw [q]; exact hw
                              exact L154  _ _ _ hw (lv_sub hl [0, 1, 2, 3] rfl)
                            · refine lv_aload_n hx hb dX7_like_116 rfl (lv_at hl 0 rfl) ?_
                              refine s_get (v := .ref (ad 28)) fb7 cf hw 0 rfl 28 rfl q949 (hf.2 28 rfl) dX7_like_117 ?_
                              refine lv_iload hx hb dX7_like_120 (lv_at hl 4 rfl) ?_
                              refine lv_dup2_11 hx hb dX7_like_122 rfl rfl ?_
                              refine s_iald (j := h) cf hw 11 rfl (rfl) (by omega) rfl dX7_like_123 ?_
                              refine lv_aload_n hx hb dX7_like_124 rfl (lv_at hl 0 rfl) ?_
                              refine lv_iload hx hb dX7_like_125 (lv_at hl 4 rfl) ?_
                              refine lv_iconst (v := 3) hx hb dX7_like_127 (by decide) ?_
                              refine s_calli (runV cf (m_of (d := nightsF ft i d) hf h 3 (by omega)) hw [0, 1] (by decide) rfl km_X7_of ki_X7_of q1076 (run_recv (ci := 7) (T := TX7) (N := 39) hw 0 rfl rfl) rfl rfl hl.1 rfl dX7_like_128) hw [0, 1] (by decide) rfl (fun _ => rfl) (fun r_15 u_13 H locs hp_14 hw => ?_)
                              have hw : WD g A s H locs [bO a 7 fs, bI g (ad 0) 60 (nightsF ft i d), bI g (ad 2) 60 d, bI g (ad 5) 1344 cdf, bI g (ad 6) 14 kf, bI g (ad 7) 14 sf, bI g (ad 9) 96 pl, bI g (ad 24) 4 so, bI g (ad 25) 4 sz, bI g (ad 26) 96 nu, bZ g (ad 27) 96 isn, bI g (ad 28) 10 (itn (likeS nu (24 * k) (nightsF ft i d) i) h (likeA ft d nu isn (24 * k) i (fun _ => 0)))] := hw
                              subst hp_14
                              refine lv_aload_n hx hb dX7_like_131 rfl (lv_at hl 0 rfl) ?_
                              refine s_get (v := .ref (ad 26)) fb7 cf hw 0 rfl 26 rfl q947 (hf.2 26 rfl) dX7_like_132 ?_
                              refine lv_bipush (v := 24) hx hb dX7_like_135 (by decide) ?_
                              refine lv_iload_n hx hb dX7_like_137 rfl (lv_at hl 1 rfl) ?_
                              refine lv_imul hx hb dX7_like_138 ?_
                              refine lv_iload_n hx hb dX7_like_139 rfl (lv_at hl 3 rfl) ?_
                              refine lv_iadd hx hb dX7_like_140 ?_
                              refine s_iald (j := (24 * k + i)) cf hw 9 rfl (ix24 k i) (by omega) rfl dX7_like_141 ?_
                              refine lv_isub hx hb dX7_like_142 ?_
                              refine s_calli (runS cf (m_size (((nightsF ft i d) (10 + 5 * h + 3)) - (nu (24 * k + i)))) hw [] (by decide) rfl km_X7_size ks_X7_size q1080 rfl rfl hl.1 rfl dX7_like_143) hw [] (by decide) rfl (fun _ => rfl) (fun r_18 u_16 H locs hp_17 hw => ?_)
                              have hw : WD g A s H locs [bO a 7 fs, bI g (ad 0) 60 (nightsF ft i d), bI g (ad 2) 60 d, bI g (ad 5) 1344 cdf, bI g (ad 6) 14 kf, bI g (ad 7) 14 sf, bI g (ad 9) 96 pl, bI g (ad 24) 4 so, bI g (ad 25) 4 sz, bI g (ad 26) 96 nu, bZ g (ad 27) 96 isn, bI g (ad 28) 10 (itn (likeS nu (24 * k) (nightsF ft i d) i) h (likeA ft d nu isn (24 * k) i (fun _ => 0)))] := hw
                              subst hp_17
                              refine lv_iadd hx hb dX7_like_146 ?_
                              refine s_iast (j := h) cf hw 11 rfl (rfl) (by omega) rfl dX7_like_147 (fun H locs hw => ?_)
                              have hw : WD g A s H locs [bO a 7 fs, bI g (ad 0) 60 (nightsF ft i d), bI g (ad 2) 60 d, bI g (ad 5) 1344 cdf, bI g (ad 6) 14 kf, bI g (ad 7) 14 sf, bI g (ad 9) 96 pl, bI g (ad 24) 4 so, bI g (ad 25) 4 sz, bI g (ad 26) 96 nu, bZ g (ad 27) 96 isn, bI g (ad 28) 10 (upd (itn (likeS nu (24 * k) (nightsF ft i d) i) h (likeA ft d nu isn (24 * k) i (fun _ => 0))) h (((itn (likeS nu (24 * k) (nightsF ft i d) i) h (likeA ft d nu isn (24 * k) i (fun _ => 0))) h) + (sizeF (((nightsF ft i d) (10 + 5 * h + 3)) - (nu (24 * k + i))))))] := hw
                              refine lv_iinc (v := nI (h + 1)) (lv' := [(4, .int (nI (h + 1))), (0, .ref a), (1, .int (nI k)), (2, .int w), (3, .int (nI i))]) hx hb dX7_like_148 hl (k := 4) rfl (nI_1 h) (by decide) rfl (fun ls hl => ?_)
                              refine lv_goto (tgt := 91) hx hb dX7_like_151 (by decide) ?_
                              exact ih91 (h + 1) (by omega) (fun z => absurd z c113) (by omega) _ _ _ hw (lv_sub hl [1, 2, 3, 4, 0] rfl)
                      exact L91 (n + 1) 0 (by omega) (fun _ => rfl) (by omega) _ _ _ hw (lv_sub hl [1, 2, 3, 4, 0] rfl)
                exact L78 (mm + 1) 0 pl (by omega) (by omega) _ _ _ hw (lv_sub hl [1, 2, 3, 0] rfl)
              · have hlt : i < 10 := nI_lt_of (n := 10) (by omega) c49 (by omega)
                refine lv_aload_n hx hb dX7_like_52 rfl (lv_at hl 0 rfl) ?_
                refine s_get (v := .ref (ad 28)) fb7 cf hw 0 rfl 28 rfl q949 (hf.2 28 rfl) dX7_like_53 ?_
                refine lv_iload_n hx hb dX7_like_56 rfl (lv_at hl 3 rfl) ?_
                refine lv_iconst (v := 0) hx hb dX7_like_57 (by decide) ?_
                refine s_iast (j := i) cf hw 11 rfl (rfl) (by omega) rfl dX7_like_58 (fun H locs hw => ?_)
                have hw : WD g A s H locs [bO a 7 fs, bI g (ad 0) 60 d, bI g (ad 2) 60 as_, bI g (ad 5) 1344 cdf, bI g (ad 6) 14 kf, bI g (ad 7) 14 sf, bI g (ad 9) 96 pl, bI g (ad 24) 4 so, bI g (ad 25) 4 sz, bI g (ad 26) 96 nu, bZ g (ad 27) 96 isn, bI g (ad 28) 10 (upd (fillF 0 0 i ap) i 0)] := hw
                have hw : WD g A s H locs [bO a 7 fs, bI g (ad 0) 60 d, bI g (ad 2) 60 as_, bI g (ad 5) 1344 cdf, bI g (ad 6) 14 kf, bI g (ad 7) 14 sf, bI g (ad 9) 96 pl, bI g (ad 24) 4 so, bI g (ad 25) 4 sz, bI g (ad 26) 96 nu, bZ g (ad 27) 96 isn, bI g (ad 28) 10 (fillF 0 0 (i + 1) ap)] := by have q : fillF 0 0 (i + 1) ap = upd (fillF 0 0 i ap) i 0 := (by show upd (fillF 0 0 i ap) (0 + i) 0 = _; rw [Nat.zero_add]); rw [q]; exact hw
                refine lv_iinc (v := nI (i + 1)) (lv' := [(3, .int (nI (i + 1))), (0, .ref a), (1, .int (nI k)), (2, .int w)]) hx hb dX7_like_59 hl (k := 3) rfl (nI_1 i) (by decide) rfl (fun ls hl => ?_)
                refine lv_goto (tgt := 46) hx hb dX7_like_62 (by decide) ?_
                exact ih46 (i + 1) (by omega) (by omega) _ _ _ hw (lv_sub hl [1, 2, 3, 0] rfl)
          exact L46 11 0 (by omega) (by omega) _ _ _ hw (lv_sub hl [1, 2, 3, 0] rfl)
        · refine lv_ldc hx hb hown (hts _ q1198) dX7_like_41 ?_
          exact s_iret cf hr hlk (as_, pl, ap) hw (by unfold R_like; rw [if_pos ⟨c4, c14⟩, hclk, if_neg (Int32.not_lt.mpr c26), if_pos c38]) (Nat.le_of_ble_eq_true rfl) (Nat.le_of_ble_eq_true rfl) dX7_like_43 hQ
      · refine lv_ldc hx hb hown (hts _ q1247) dX7_like_29 ?_
        exact s_iret cf hr hlk (as_, pl, ap) hw (by unfold R_like; rw [if_pos ⟨c4, c14⟩, hclk, if_pos (Int32.not_le.mp c26)]) (Nat.le_of_ble_eq_true rfl) (Nat.le_of_ble_eq_true rfl) dX7_like_31 hQ
    · have c14 := b01_z c14
      refine lv_ldc hx hb hown (hts _ q1049) dX7_like_17 ?_
      exact s_iret cf hr hlk (as_, pl, ap) hw (by unfold R_like; rw [if_neg (by grind)]) (Nat.le_of_ble_eq_true rfl) (Nat.le_of_ble_eq_true rfl) dX7_like_19 hQ
