set_option maxRecDepth 100000 in
set_option maxHeartbeats 4000000 in
theorem x_past {l : Launch} {g : GG} {ta : Nat} {tf : DD} {tp : Nat} (htp : tp ≤ 96) {a0 : Nat} (ha : a0 ≤ tp) : Ct l g yX1_pastBlanks cX1_pastBlanks 4 (Option.some Jvm.ClassFile.FieldType.int) 0 0 0 [.ref ta, .int (nI tp), .int (nI a0)] [bI g ta 96 tf] (QI g (fun r (_ : Unit) => r = nI (skipB tf tp a0)) (fun _ => [bI g ta 96 tf])) := by
  refine Ct.of (by decide) rfl ?_
  intro p e s m args below meth c A H locs ls Qf cf hr hlk hnm hQ hw hl
  have hx := cf.1
  have hb := cf.2.1
  have hml := cf.2.2.1
  have hown := cf.2.2.2.1
  have hts := cf.2.2.2.2
  have hw : WD g A s H locs [bI g ta 96 tf] := hw
  have hl : lv_has ls 4 [(0, .ref ta), (1, .int (nI tp)), (2, .int (nI a0))] := hl
  refine lv_iload_n hx hb dX1_pastBlanks_0 rfl (lv_at hl 2 rfl) ?_
  refine lv_istore_n (lv' := [(3, .int (nI a0)), (0, .ref ta), (1, .int (nI tp)), (2, .int (nI a0))]) hx hb dX1_pastBlanks_1 rfl hl (by decide) rfl (fun ls hl => ?_)
  have L2 : ∀ (fu : Nat) (k : Nat), (k ≤ tp) → (tp < k + fu) → (skipB tf tp a0 = lst (fun j => ¬ tf j = 32) (tp - k) k) → ∀ (H : Heap) (locs : List Loc) (ls : Array Slot), WD g A s H locs [bI g ta 96 tf] → lv_has ls 4 [(0, .ref ta), (1, .int (nI tp)), (3, .int (nI k))] → W p l e (rmx 0 0 0) s m args below meth c H locs 0 0 Qf (F0 m 2 ls []) := by
    intro fu
    induction fu with
    | zero => intro k hk hfu hls; exfalso; omega
    | succ fu ih2 =>
      intro k hk hfu hls H locs ls hw hl
      refine lv_iload_n hx hb dX1_pastBlanks_2 rfl (lv_at hl 2 rfl) ?_
      refine lv_iload_n hx hb dX1_pastBlanks_3 rfl (lv_at hl 1 rfl) ?_
      refine lv_icmp_ge (tgt := 21) hx hb dX1_pastBlanks_4 (by decide) (fun c4 => ?_) (fun c4 => ?_)
      · have hK : skipB tf tp a0 = k := hls.trans (lst_end (by have := nI_le_of (by omega) c4 (by omega); omega))
        refine lv_iload_n hx hb dX1_pastBlanks_21 rfl (lv_at hl 2 rfl) ?_
        exact s_iret cf hr hlk () hw (by rw [hK]) (Nat.le_of_ble_eq_true rfl) (Nat.le_of_ble_eq_true rfl) dX1_pastBlanks_22 hQ
      · have hlt : k < tp := nI_lt_of (by omega) c4 (by omega)
        refine lv_aload_n hx hb dX1_pastBlanks_7 rfl (lv_at hl 0 rfl) ?_
        refine lv_iload_n hx hb dX1_pastBlanks_8 rfl (lv_at hl 2 rfl) ?_
        refine s_iald (j := k) cf hw 0 rfl (rfl) (by omega) rfl dX1_pastBlanks_9 ?_
        refine lv_bipush (v := 32) hx hb dX1_pastBlanks_10 (by decide) ?_
        refine lv_icmp_ne (tgt := 21) hx hb dX1_pastBlanks_12 (by decide) (fun c12 => ?_) (fun c12 => ?_)
        · have hK : skipB tf tp a0 = k := hls.trans (lst_stop hlt c12)
          refine lv_iload_n hx hb dX1_pastBlanks_21 rfl (lv_at hl 2 rfl) ?_
          exact s_iret cf hr hlk () hw (by rw [hK]) (Nat.le_of_ble_eq_true rfl) (Nat.le_of_ble_eq_true rfl) dX1_pastBlanks_22 hQ
        · refine lv_iinc (v := nI (k + 1)) (lv' := [(3, .int (nI (k + 1))), (0, .ref ta), (1, .int (nI tp))]) hx hb dX1_pastBlanks_15 hl (k := 2) rfl (nI_1 k) (by decide) rfl (fun ls hl => ?_)
          refine lv_goto (tgt := 2) hx hb dX1_pastBlanks_18 (by decide) ?_
          exact ih2 (k + 1) (by omega) (by omega) (hls.trans (lst_step hlt (fun z => z c12))) _ _ _ hw (lv_sub hl [1, 2, 0] rfl)
  exact L2 (tp + 1) a0 (by omega) (by omega) rfl _ _ _ hw (lv_sub hl [1, 2, 0] rfl)
set_option maxRecDepth 100000 in
set_option maxHeartbeats 4000000 in
theorem x_endOf {l : Launch} {g : GG} {ta : Nat} {tf : DD} {tp : Nat} (htp : tp ≤ 96) {b0 : Nat} (hb0 : b0 ≤ tp) : Ct l g yX1_endOf cX1_endOf 4 (Option.some Jvm.ClassFile.FieldType.int) 1 0 0 [.ref ta, .int (nI tp), .int (nI b0)] [bI g ta 96 tf] (QI g (fun r (_ : Unit) => r = nI (endM tf tp b0)) (fun _ => [bI g ta 96 tf])) := by
  refine Ct.of (by decide) rfl ?_
  intro p e s m args below meth c A H locs ls Qf cf hr hlk hnm hQ hw hl
  have hx := cf.1
  have hb := cf.2.1
  have hml := cf.2.2.1
  have hown := cf.2.2.2.1
  have hts := cf.2.2.2.2
  have hw : WD g A s H locs [bI g ta 96 tf] := hw
  have hl : lv_has ls 4 [(0, .ref ta), (1, .int (nI tp)), (2, .int (nI b0))] := hl
  refine lv_iload_n hx hb dX1_endOf_0 rfl (lv_at hl 2 rfl) ?_
  refine lv_istore_n (lv' := [(3, .int (nI b0)), (0, .ref ta), (1, .int (nI tp)), (2, .int (nI b0))]) hx hb dX1_endOf_1 rfl hl (by decide) rfl (fun ls hl => ?_)
  refine lv_iload_n hx hb dX1_endOf_2 rfl (lv_at hl 0 rfl) ?_
  refine lv_iload_n hx hb dX1_endOf_3 rfl (lv_at hl 2 rfl) ?_
  refine lv_icmp_ge (tgt := 38) hx hb dX1_endOf_4 (by decide) (fun c4 => ?_) (fun c4 => ?_)
  · have hbt : ¬ b0 < tp := by have := nI_le_of (by omega) c4 (by omega); omega
    have L38 : ∀ (fu : Nat) (k : Nat), (b0 ≤ k) → (k ≤ tp) → (tp < k + fu) → (endD tf tp b0 = lst (fun j => ¬ isDg (tf j)) (tp - k) k) → ∀ (H : Heap) (locs : List Loc) (ls : Array Slot), WD g A s H locs [bI g ta 96 tf] → lv_has ls 4 [(0, .ref ta), (1, .int (nI tp)), (2, .int (nI b0)), (3, .int (nI k))] → W p l e (rmx 1 0 0) s m args below meth c H locs 0 0 Qf (F0 m 38 ls []) := by
      intro fu
      induction fu with
      | zero => intro k hbk hk hfu hls; exfalso; omega
      | succ fu ih38 =>
        intro k hbk hk hfu hls H locs ls hw hl
        refine lv_iload_n hx hb dX1_endOf_38 rfl (lv_at hl 3 rfl) ?_
        refine lv_iload_n hx hb dX1_endOf_39 rfl (lv_at hl 1 rfl) ?_
        refine lv_icmp_ge (tgt := 58) hx hb dX1_endOf_40 (by decide) (fun c40 => ?_) (fun c40 => ?_)
        · have hK : endD tf tp b0 = k := hls.trans (lst_end (by have := nI_le_of (by omega) c40 (by omega); omega))
          refine lv_iload_n hx hb dX1_endOf_58 rfl (lv_at hl 3 rfl) ?_
          refine lv_iload_n hx hb dX1_endOf_59 rfl (lv_at hl 2 rfl) ?_
          refine lv_icmp_le (tgt := 67) hx hb dX1_endOf_60 (by decide) (fun c60 => ?_) (fun c60 => ?_)
          · have hkb : k = b0 := by have := nI_le_of (by omega) c60 (by omega); omega
            refine lv_iload_n hx hb dX1_endOf_67 rfl (lv_at hl 1 rfl) ?_
            refine lv_iload_n hx hb dX1_endOf_68 rfl (lv_at hl 2 rfl) ?_
            refine lv_iconst (v := 1) hx hb dX1_endOf_69 (by decide) ?_
            refine lv_iadd hx hb dX1_endOf_70 ?_
            refine va_mmin hx hb (by rw [hml]; exact hl.1.symm) hown (hts _ q666) (hts _ ks_J9_min_7cf53) (hts _ km_J9_min_7cf53.1) (hts _ km_J9_min_7cf53.2.1) (Nat.le_of_ble_eq_true rfl) (Nat.le_of_ble_eq_true rfl) (Nat.le_of_ble_eq_true rfl) (Nat.le_of_ble_eq_true rfl) dX1_endOf_71 ?_
            exact s_iret cf hr hlk () hw (by unfold endM; rw [if_neg hbt, show nI b0 + 1 = nI (b0 + 1) from nI_1 b0]; exact if_neg (nI_nlt (by omega) (by omega))) (Nat.le_of_ble_eq_true rfl) (Nat.le_of_ble_eq_true rfl) dX1_endOf_74 hQ
          · have hkb : b0 < k := nI_lt_of (by omega) c60 (by omega)
            refine lv_iload_n hx hb dX1_endOf_63 rfl (lv_at hl 3 rfl) ?_
            refine lv_goto (tgt := 74) hx hb dX1_endOf_64 (by decide) ?_
            exact s_iret cf hr hlk () hw (by exact absurd hK (by have h1 : endD tf tp b0 ≤ b0 + (tp - b0) := lst_le _ _ _; omega)) (Nat.le_of_ble_eq_true rfl) (Nat.le_of_ble_eq_true rfl) dX1_endOf_74 hQ
        · have hlt : k < tp := nI_lt_of (by omega) c40 (by omega)
          refine lv_aload_n hx hb dX1_endOf_43 rfl (lv_at hl 0 rfl) ?_
          refine lv_iload_n hx hb dX1_endOf_44 rfl (lv_at hl 3 rfl) ?_
          refine s_iald (j := k) cf hw 0 rfl (rfl) (by omega) rfl dX1_endOf_45 ?_
          refine s_calli (runS cf (x_isDigit (tf k)) hw [] (by decide) rfl km_X1_isDigit ks_X1_isDigit q663 rfl rfl hl.1 rfl dX1_endOf_46) hw [] (by decide) rfl (fun _ => rfl) (fun r_3 u_1 H locs hp_2 hw => ?_)
          have hw : WD g A s H locs [bI g ta 96 tf] := hw
          subst hp_2
          refine lv_if_eq (tgt := 58) hx hb dX1_endOf_49 (by decide) (fun c49 => ?_) (fun c49 => ?_)
          · have c49 := b01_z c49
            have hK : endD tf tp b0 = k := hls.trans (lst_stop hlt c49)
            refine lv_iload_n hx hb dX1_endOf_58 rfl (lv_at hl 3 rfl) ?_
            refine lv_iload_n hx hb dX1_endOf_59 rfl (lv_at hl 2 rfl) ?_
            refine lv_icmp_le (tgt := 67) hx hb dX1_endOf_60 (by decide) (fun c60 => ?_) (fun c60 => ?_)
            · have hkb : k = b0 := by have := nI_le_of (by omega) c60 (by omega); omega
              refine lv_iload_n hx hb dX1_endOf_67 rfl (lv_at hl 1 rfl) ?_
              refine lv_iload_n hx hb dX1_endOf_68 rfl (lv_at hl 2 rfl) ?_
              refine lv_iconst (v := 1) hx hb dX1_endOf_69 (by decide) ?_
              refine lv_iadd hx hb dX1_endOf_70 ?_
              refine va_mmin hx hb (by rw [hml]; exact hl.1.symm) hown (hts _ q666) (hts _ ks_J9_min_7cf53) (hts _ km_J9_min_7cf53.1) (hts _ km_J9_min_7cf53.2.1) (Nat.le_of_ble_eq_true rfl) (Nat.le_of_ble_eq_true rfl) (Nat.le_of_ble_eq_true rfl) (Nat.le_of_ble_eq_true rfl) dX1_endOf_71 ?_
              exact s_iret cf hr hlk () hw (by unfold endM; rw [if_neg hbt, show nI b0 + 1 = nI (b0 + 1) from nI_1 b0]; exact if_neg (nI_nlt (by omega) (by omega))) (Nat.le_of_ble_eq_true rfl) (Nat.le_of_ble_eq_true rfl) dX1_endOf_74 hQ
            · have hkb : b0 < k := nI_lt_of (by omega) c60 (by omega)
              refine lv_iload_n hx hb dX1_endOf_63 rfl (lv_at hl 3 rfl) ?_
              refine lv_goto (tgt := 74) hx hb dX1_endOf_64 (by decide) ?_
              exact s_iret cf hr hlk () hw (by exact absurd hK (by have h1 : endD tf tp b0 ≤ b0 + (tp - b0) := lst_le _ _ _; omega)) (Nat.le_of_ble_eq_true rfl) (Nat.le_of_ble_eq_true rfl) dX1_endOf_74 hQ
          · have c49 := b01_n c49
            refine lv_iinc (v := nI (k + 1)) (lv' := [(3, .int (nI (k + 1))), (0, .ref ta), (1, .int (nI tp)), (2, .int (nI b0))]) hx hb dX1_endOf_52 hl (k := 3) rfl (nI_1 k) (by decide) rfl (fun ls hl => ?_)
            refine lv_goto (tgt := 38) hx hb dX1_endOf_55 (by decide) ?_
            exact ih38 (k + 1) (by omega) (by omega) (by omega) (hls.trans (lst_step hlt (fun z => z c49))) _ _ _ hw (lv_sub hl [1, 2, 3, 0] rfl)
    exact L38 (tp + 1) b0 (by omega) (by omega) (by omega) rfl _ _ _ hw (lv_sub hl [1, 2, 3, 0] rfl)
  · have hbt : b0 < tp := nI_lt_of (by omega) c4 (by omega)
    refine lv_aload_n hx hb dX1_endOf_7 rfl (lv_at hl 1 rfl) ?_
    refine lv_iload_n hx hb dX1_endOf_8 rfl (lv_at hl 0 rfl) ?_
    refine s_iald (j := b0) cf hw 0 rfl (rfl) (by omega) rfl dX1_endOf_9 ?_
    refine s_calli (runS cf (x_isLetter (tf b0)) hw [] (by decide) rfl km_X1_isLetter ks_X1_isLetter q660 rfl rfl hl.1 rfl dX1_endOf_10) hw [] (by decide) rfl (fun _ => rfl) (fun r_6 u_4 H locs hp_5 hw => ?_)
    have hw : WD g A s H locs [bI g ta 96 tf] := hw
    subst hp_5
    refine lv_if_eq (tgt := 38) hx hb dX1_endOf_13 (by decide) (fun c13 => ?_) (fun c13 => ?_)
    · have c13 := b01_z c13
      have hL : ¬ isLt (tf b0) := c13
      have L38 : ∀ (fu : Nat) (k : Nat), (b0 ≤ k) → (k ≤ tp) → (tp < k + fu) → (endD tf tp b0 = lst (fun j => ¬ isDg (tf j)) (tp - k) k) → ∀ (H : Heap) (locs : List Loc) (ls : Array Slot), WD g A s H locs [bI g ta 96 tf] → lv_has ls 4 [(0, .ref ta), (1, .int (nI tp)), (2, .int (nI b0)), (3, .int (nI k))] → W p l e (rmx 1 0 0) s m args below meth c H locs 0 0 Qf (F0 m 38 ls []) := by
        intro fu
        induction fu with
        | zero => intro k hbk hk hfu hls; exfalso; omega
        | succ fu ih38 =>
          intro k hbk hk hfu hls H locs ls hw hl
          refine lv_iload_n hx hb dX1_endOf_38 rfl (lv_at hl 3 rfl) ?_
          refine lv_iload_n hx hb dX1_endOf_39 rfl (lv_at hl 1 rfl) ?_
          refine lv_icmp_ge (tgt := 58) hx hb dX1_endOf_40 (by decide) (fun c40 => ?_) (fun c40 => ?_)
          · have hK : endD tf tp b0 = k := hls.trans (lst_end (by have := nI_le_of (by omega) c40 (by omega); omega))
            refine lv_iload_n hx hb dX1_endOf_58 rfl (lv_at hl 3 rfl) ?_
            refine lv_iload_n hx hb dX1_endOf_59 rfl (lv_at hl 2 rfl) ?_
            refine lv_icmp_le (tgt := 67) hx hb dX1_endOf_60 (by decide) (fun c60 => ?_) (fun c60 => ?_)
            · have hkb : k = b0 := by have := nI_le_of (by omega) c60 (by omega); omega
              refine lv_iload_n hx hb dX1_endOf_67 rfl (lv_at hl 1 rfl) ?_
              refine lv_iload_n hx hb dX1_endOf_68 rfl (lv_at hl 2 rfl) ?_
              refine lv_iconst (v := 1) hx hb dX1_endOf_69 (by decide) ?_
              refine lv_iadd hx hb dX1_endOf_70 ?_
              refine va_mmin hx hb (by rw [hml]; exact hl.1.symm) hown (hts _ q666) (hts _ ks_J9_min_7cf53) (hts _ km_J9_min_7cf53.1) (hts _ km_J9_min_7cf53.2.1) (Nat.le_of_ble_eq_true rfl) (Nat.le_of_ble_eq_true rfl) (Nat.le_of_ble_eq_true rfl) (Nat.le_of_ble_eq_true rfl) dX1_endOf_71 ?_
              have hD : ¬ isDg (tf b0) := fun z => by have h1 := lst_step (N := tp) (k := b0) (p := fun j => ¬ isDg (tf j)) hbt (fun y => y z); have h2 := lst_ge (fun j => ¬ isDg (tf j)) (tp - (b0 + 1)) (b0 + 1); have h3 : endD tf tp b0 = lst (fun j => ¬ isDg (tf j)) (tp - b0) b0 := rfl; omega
              exact s_iret cf hr hlk () hw (by unfold endM; rw [if_pos hbt, if_neg hL, if_neg hD, show nI b0 + 1 = nI (b0 + 1) from nI_1 b0]; by_cases y : nI (b0 + 1) < nI tp; rw [if_pos y]; rw [if_neg y]; congr 1; rw [nI_ltI (by omega) (by omega)] at y; omega) (Nat.le_of_ble_eq_true rfl) (Nat.le_of_ble_eq_true rfl) dX1_endOf_74 hQ
            · have hkb : b0 < k := nI_lt_of (by omega) c60 (by omega)
              refine lv_iload_n hx hb dX1_endOf_63 rfl (lv_at hl 3 rfl) ?_
              refine lv_goto (tgt := 74) hx hb dX1_endOf_64 (by decide) ?_
              exact s_iret cf hr hlk () hw (by unfold endM; rw [if_pos hbt, if_neg hL, if_pos (Decidable.byContradiction (fun z => by have h1 : endD tf tp b0 = b0 := lst_stop hbt z; omega)), hK]) (Nat.le_of_ble_eq_true rfl) (Nat.le_of_ble_eq_true rfl) dX1_endOf_74 hQ
          · have hlt : k < tp := nI_lt_of (by omega) c40 (by omega)
            refine lv_aload_n hx hb dX1_endOf_43 rfl (lv_at hl 0 rfl) ?_
            refine lv_iload_n hx hb dX1_endOf_44 rfl (lv_at hl 3 rfl) ?_
            refine s_iald (j := k) cf hw 0 rfl (rfl) (by omega) rfl dX1_endOf_45 ?_
            refine s_calli (runS cf (x_isDigit (tf k)) hw [] (by decide) rfl km_X1_isDigit ks_X1_isDigit q663 rfl rfl hl.1 rfl dX1_endOf_46) hw [] (by decide) rfl (fun _ => rfl) (fun r_9 u_7 H locs hp_8 hw => ?_)
            have hw : WD g A s H locs [bI g ta 96 tf] := hw
            subst hp_8
            refine lv_if_eq (tgt := 58) hx hb dX1_endOf_49 (by decide) (fun c49 => ?_) (fun c49 => ?_)
            · have c49 := b01_z c49
              have hK : endD tf tp b0 = k := hls.trans (lst_stop hlt c49)
              refine lv_iload_n hx hb dX1_endOf_58 rfl (lv_at hl 3 rfl) ?_
              refine lv_iload_n hx hb dX1_endOf_59 rfl (lv_at hl 2 rfl) ?_
              refine lv_icmp_le (tgt := 67) hx hb dX1_endOf_60 (by decide) (fun c60 => ?_) (fun c60 => ?_)
              · have hkb : k = b0 := by have := nI_le_of (by omega) c60 (by omega); omega
                refine lv_iload_n hx hb dX1_endOf_67 rfl (lv_at hl 1 rfl) ?_
                refine lv_iload_n hx hb dX1_endOf_68 rfl (lv_at hl 2 rfl) ?_
                refine lv_iconst (v := 1) hx hb dX1_endOf_69 (by decide) ?_
                refine lv_iadd hx hb dX1_endOf_70 ?_
                refine va_mmin hx hb (by rw [hml]; exact hl.1.symm) hown (hts _ q666) (hts _ ks_J9_min_7cf53) (hts _ km_J9_min_7cf53.1) (hts _ km_J9_min_7cf53.2.1) (Nat.le_of_ble_eq_true rfl) (Nat.le_of_ble_eq_true rfl) (Nat.le_of_ble_eq_true rfl) (Nat.le_of_ble_eq_true rfl) dX1_endOf_71 ?_
                have hD : ¬ isDg (tf b0) := fun z => by have h1 := lst_step (N := tp) (k := b0) (p := fun j => ¬ isDg (tf j)) hbt (fun y => y z); have h2 := lst_ge (fun j => ¬ isDg (tf j)) (tp - (b0 + 1)) (b0 + 1); have h3 : endD tf tp b0 = lst (fun j => ¬ isDg (tf j)) (tp - b0) b0 := rfl; omega
                exact s_iret cf hr hlk () hw (by unfold endM; rw [if_pos hbt, if_neg hL, if_neg hD, show nI b0 + 1 = nI (b0 + 1) from nI_1 b0]; by_cases y : nI (b0 + 1) < nI tp; rw [if_pos y]; rw [if_neg y]; congr 1; rw [nI_ltI (by omega) (by omega)] at y; omega) (Nat.le_of_ble_eq_true rfl) (Nat.le_of_ble_eq_true rfl) dX1_endOf_74 hQ
              · have hkb : b0 < k := nI_lt_of (by omega) c60 (by omega)
                refine lv_iload_n hx hb dX1_endOf_63 rfl (lv_at hl 3 rfl) ?_
                refine lv_goto (tgt := 74) hx hb dX1_endOf_64 (by decide) ?_
                exact s_iret cf hr hlk () hw (by unfold endM; rw [if_pos hbt, if_neg hL, if_pos (Decidable.byContradiction (fun z => by have h1 : endD tf tp b0 = b0 := lst_stop hbt z; omega)), hK]) (Nat.le_of_ble_eq_true rfl) (Nat.le_of_ble_eq_true rfl) dX1_endOf_74 hQ
            · have c49 := b01_n c49
              refine lv_iinc (v := nI (k + 1)) (lv' := [(3, .int (nI (k + 1))), (0, .ref ta), (1, .int (nI tp)), (2, .int (nI b0))]) hx hb dX1_endOf_52 hl (k := 3) rfl (nI_1 k) (by decide) rfl (fun ls hl => ?_)
              refine lv_goto (tgt := 38) hx hb dX1_endOf_55 (by decide) ?_
              exact ih38 (k + 1) (by omega) (by omega) (by omega) (hls.trans (lst_step hlt (fun z => z c49))) _ _ _ hw (lv_sub hl [1, 2, 3, 0] rfl)
      exact L38 (tp + 1) b0 (by omega) (by omega) (by omega) rfl _ _ _ hw (lv_sub hl [1, 2, 3, 0] rfl)
    · have c13 := b01_n c13
      have hL : isLt (tf b0) := c13
      have L16 : ∀ (fu : Nat) (k : Nat), (b0 ≤ k) → (k ≤ tp) → (tp < k + fu) → (endL tf tp b0 = lst (fun j => ¬ isLt (tf j)) (tp - k) k) → ∀ (H : Heap) (locs : List Loc) (ls : Array Slot), WD g A s H locs [bI g ta 96 tf] → lv_has ls 4 [(0, .ref ta), (1, .int (nI tp)), (2, .int (nI b0)), (3, .int (nI k))] → W p l e (rmx 1 0 0) s m args below meth c H locs 0 0 Qf (F0 m 16 ls []) := by
        intro fu
        induction fu with
        | zero => intro k hbk hk hfu hls; exfalso; omega
        | succ fu ih16 =>
          intro k hbk hk hfu hls H locs ls hw hl
          refine lv_iload_n hx hb dX1_endOf_16 rfl (lv_at hl 3 rfl) ?_
          refine lv_iload_n hx hb dX1_endOf_17 rfl (lv_at hl 1 rfl) ?_
          refine lv_icmp_ge (tgt := 36) hx hb dX1_endOf_18 (by decide) (fun c18 => ?_) (fun c18 => ?_)
          · have hK : endL tf tp b0 = k := hls.trans (lst_end (by have := nI_le_of (by omega) c18 (by omega); omega))
            refine lv_iload_n hx hb dX1_endOf_36 rfl (lv_at hl 3 rfl) ?_
            exact s_iret cf hr hlk () hw (by unfold endM; rw [if_pos hbt, if_pos hL, hK]) (Nat.le_of_ble_eq_true rfl) (Nat.le_of_ble_eq_true rfl) dX1_endOf_37 hQ
          · have hlt : k < tp := nI_lt_of (by omega) c18 (by omega)
            refine lv_aload_n hx hb dX1_endOf_21 rfl (lv_at hl 0 rfl) ?_
            refine lv_iload_n hx hb dX1_endOf_22 rfl (lv_at hl 3 rfl) ?_
            refine s_iald (j := k) cf hw 0 rfl (rfl) (by omega) rfl dX1_endOf_23 ?_
            refine s_calli (runS cf (x_isLetter (tf k)) hw [] (by decide) rfl km_X1_isLetter ks_X1_isLetter q660 rfl rfl hl.1 rfl dX1_endOf_24) hw [] (by decide) rfl (fun _ => rfl) (fun r_12 u_10 H locs hp_11 hw => ?_)
            have hw : WD g A s H locs [bI g ta 96 tf] := hw
            subst hp_11
            refine lv_if_eq (tgt := 36) hx hb dX1_endOf_27 (by decide) (fun c27 => ?_) (fun c27 => ?_)
            · have c27 := b01_z c27
              have hK : endL tf tp b0 = k := hls.trans (lst_stop hlt c27)
              refine lv_iload_n hx hb dX1_endOf_36 rfl (lv_at hl 3 rfl) ?_
              exact s_iret cf hr hlk () hw (by unfold endM; rw [if_pos hbt, if_pos hL, hK]) (Nat.le_of_ble_eq_true rfl) (Nat.le_of_ble_eq_true rfl) dX1_endOf_37 hQ
            · have c27 := b01_n c27
              refine lv_iinc (v := nI (k + 1)) (lv' := [(3, .int (nI (k + 1))), (0, .ref ta), (1, .int (nI tp)), (2, .int (nI b0))]) hx hb dX1_endOf_30 hl (k := 3) rfl (nI_1 k) (by decide) rfl (fun ls hl => ?_)
              refine lv_goto (tgt := 16) hx hb dX1_endOf_33 (by decide) ?_
              exact ih16 (k + 1) (by omega) (by omega) (by omega) (hls.trans (lst_step hlt (fun z => z c27))) _ _ _ hw (lv_sub hl [1, 2, 3, 0] rfl)
      exact L16 (tp + 1) b0 (by omega) (by omega) (by omega) rfl _ _ _ hw (lv_sub hl [1, 2, 3, 0] rfl)
set_option maxRecDepth 100000 in
set_option maxHeartbeats 4000000 in
theorem x_numberOf {l : Launch} {g : GG} {ta : Nat} {tf : DD} {b0 e0 : Nat} (hbe : b0 ≤ e0) (he : e0 ≤ 96) (hdg_ : ∀ j, b0 ≤ j → j < e0 → isDg (tf j)) : Ct l g yX1_numberOf cX1_numberOf 5 (Option.some Jvm.ClassFile.FieldType.int) 0 0 0 [.ref ta, .int (nI b0), .int (nI e0)] [bI g ta 96 tf] (QI g (fun r (_ : Unit) => r = nI (n10 tf b0 (e0 - b0))) (fun _ => [bI g ta 96 tf])) := by
  refine Ct.of (by decide) rfl ?_
  intro p e s m args below meth c A H locs ls Qf cf hr hlk hnm hQ hw hl
  have hx := cf.1
  have hb := cf.2.1
  have hml := cf.2.2.1
  have hown := cf.2.2.2.1
  have hts := cf.2.2.2.2
  have hw : WD g A s H locs [bI g ta 96 tf] := hw
  have hl : lv_has ls 5 [(0, .ref ta), (1, .int (nI b0)), (2, .int (nI e0))] := hl
  refine lv_iconst (v := 0) hx hb dX1_numberOf_0 (by decide) ?_
  refine lv_istore_n (lv' := [(3, .int 0), (0, .ref ta), (1, .int (nI b0)), (2, .int (nI e0))]) hx hb dX1_numberOf_1 rfl hl (by decide) rfl (fun ls hl => ?_)
  refine lv_iload_n hx hb dX1_numberOf_2 rfl (lv_at hl 2 rfl) ?_
  refine lv_istore (lv' := [(4, .int (nI b0)), (3, .int 0), (0, .ref ta), (1, .int (nI b0)), (2, .int (nI e0))]) hx hb dX1_numberOf_3 hl (by decide) rfl (fun ls hl => ?_)
  have L5 : ∀ (fu : Nat) (k : Nat), (b0 ≤ k) → (k ≤ e0) → (e0 < k + fu) → ∀ (H : Heap) (locs : List Loc) (ls : Array Slot), WD g A s H locs [bI g ta 96 tf] → lv_has ls 5 [(0, .ref ta), (1, .int (nI b0)), (2, .int (nI e0)), (3, .int (nI (n10 tf b0 (k - b0)))), (4, .int (nI k))] → W p l e (rmx 0 0 0) s m args below meth c H locs 0 0 Qf (F0 m 5 ls []) := by
    intro fu
    induction fu with
    | zero => intro k hbk hk hfu; exfalso; omega
    | succ fu ih5 =>
      intro k hbk hk hfu H locs ls hw hl
      refine lv_iload hx hb dX1_numberOf_5 (lv_at hl 4 rfl) ?_
      refine lv_iload_n hx hb dX1_numberOf_7 rfl (lv_at hl 2 rfl) ?_
      refine lv_icmp_ge (tgt := 30) hx hb dX1_numberOf_8 (by decide) (fun c8 => ?_) (fun c8 => ?_)
      · have hk2 : k = e0 := by have := nI_le_of (by omega) c8 (by omega); omega
        refine lv_iload_n hx hb dX1_numberOf_30 rfl (lv_at hl 3 rfl) ?_
        exact s_iret cf hr hlk () hw (by rw [hk2]) (Nat.le_of_ble_eq_true rfl) (Nat.le_of_ble_eq_true rfl) dX1_numberOf_31 hQ
      · have hlt : k < e0 := nI_lt_of (by omega) c8 (by omega)
        obtain ⟨hd1, hd2, hd3⟩ := dg_byt (hdg_ k hbk hlt)
        refine lv_iload_n hx hb dX1_numberOf_11 rfl (lv_at hl 3 rfl) ?_
        refine lv_bipush (v := 10) hx hb dX1_numberOf_12 (by decide) ?_
        refine lv_imul hx hb dX1_numberOf_14 ?_
        refine lv_aload_n hx hb dX1_numberOf_15 rfl (lv_at hl 0 rfl) ?_
        refine lv_iload hx hb dX1_numberOf_16 (lv_at hl 4 rfl) ?_
        refine s_iald (j := k) cf hw 0 rfl (rfl) (by omega) rfl dX1_numberOf_18 ?_
        refine lv_iadd hx hb dX1_numberOf_19 ?_
        refine lv_bipush (v := 48) hx hb dX1_numberOf_20 (by decide) ?_
        refine lv_isub hx hb dX1_numberOf_22 ?_
        refine lv_topr (y := nI (n10 tf b0 (k + 1 - b0))) (by rw [hd3, show (10 : Int32) = nI 10 from rfl, pk_mul, nI_add, show (48 : Int32) = nI 48 from rfl, pk_sub (by omega), show k + 1 - b0 = (k - b0) + 1 by omega]; congr 1; show _ = 10 * n10 tf b0 (k - b0) + (byt tf (b0 + (k - b0)) - 48); rw [show b0 + (k - b0) = k by omega]; omega) ?_
        refine lv_istore_n (lv' := [(3, .int (nI (n10 tf b0 (k + 1 - b0)))), (0, .ref ta), (1, .int (nI b0)), (2, .int (nI e0)), (4, .int (nI k))]) hx hb dX1_numberOf_23 rfl hl (by decide) rfl (fun ls hl => ?_)
        refine lv_iinc (v := nI (k + 1)) (lv' := [(4, .int (nI (k + 1))), (3, .int (nI (n10 tf b0 (k + 1 - b0)))), (0, .ref ta), (1, .int (nI b0)), (2, .int (nI e0))]) hx hb dX1_numberOf_24 hl (k := 4) rfl (nI_1 k) (by decide) rfl (fun ls hl => ?_)
        refine lv_goto (tgt := 5) hx hb dX1_numberOf_27 (by decide) ?_
        exact ih5 (k + 1) (by omega) (by omega) (by omega) _ _ _ hw (lv_sub hl [2, 3, 4, 1, 0] rfl)
  have hl : lv_has ls 5 [(4, .int (nI b0)), (3, .int (nI (n10 tf b0 (b0 - b0)))), (0, .ref ta), (1, .int (nI b0)), (2, .int (nI e0))] := by rw [show nI (n10 tf b0 (b0 - b0)) = 0 by rw [Nat.sub_self]; rfl]; exact hl
  exact L5 (e0 + 1) b0 (by omega) (by omega) (by omega) _ _ _ hw (lv_sub hl [2, 3, 4, 1, 0] rfl)
set_option maxRecDepth 100000 in
set_option maxHeartbeats 4000000 in
theorem x_keyOf {l : Launch} {g : GG} {ta : Nat} {tf : DD} {b0 e0 : Nat} (hbe : b0 ≤ e0) (he : e0 ≤ 96) : Ct l g yX1_keyOf cX1_keyOf 5 (Option.some Jvm.ClassFile.FieldType.int) 0 0 0 [.ref ta, .int (nI b0), .int (nI e0)] [bI g ta 96 tf] (QI g (fun r (_ : Unit) => r = keyM tf b0 e0) (fun _ => [bI g ta 96 tf])) := by
  refine Ct.of (by decide) rfl ?_
  intro p e s m args below meth c A H locs ls Qf cf hr hlk hnm hQ hw hl
  have hx := cf.1
  have hb := cf.2.1
  have hml := cf.2.2.1
  have hown := cf.2.2.2.1
  have hts := cf.2.2.2.2
  have hw : WD g A s H locs [bI g ta 96 tf] := hw
  have hl : lv_has ls 5 [(0, .ref ta), (1, .int (nI b0)), (2, .int (nI e0))] := hl
  refine lv_iconst (v := 0) hx hb dX1_keyOf_0 (by decide) ?_
  refine lv_istore_n (lv' := [(3, .int 0), (0, .ref ta), (1, .int (nI b0)), (2, .int (nI e0))]) hx hb dX1_keyOf_1 rfl hl (by decide) rfl (fun ls hl => ?_)
  refine lv_iload_n hx hb dX1_keyOf_2 rfl (lv_at hl 2 rfl) ?_
  refine lv_istore (lv' := [(4, .int (nI b0)), (3, .int 0), (0, .ref ta), (1, .int (nI b0)), (2, .int (nI e0))]) hx hb dX1_keyOf_3 hl (by decide) rfl (fun ls hl => ?_)
  have L5 : ∀ (fu : Nat) (k : Nat), (b0 ≤ k) → (k ≤ e0) → (b0 < k → e0 - b0 ≤ 4) → (e0 < k + fu) → ∀ (H : Heap) (locs : List Loc) (ls : Array Slot), WD g A s H locs [bI g ta 96 tf] → lv_has ls 5 [(0, .ref ta), (1, .int (nI b0)), (2, .int (nI e0)), (3, .int (wordF tf b0 (k - b0))), (4, .int (nI k))] → W p l e (rmx 0 0 0) s m args below meth c H locs 0 0 Qf (F0 m 5 ls []) := by
    intro fu
    induction fu with
    | zero => intro k hbk hk h4 hfu; exfalso; omega
    | succ fu ih5 =>
      intro k hbk hk h4 hfu H locs ls hw hl
      refine lv_iload hx hb dX1_keyOf_5 (lv_at hl 4 rfl) ?_
      refine lv_iload_n hx hb dX1_keyOf_7 rfl (lv_at hl 2 rfl) ?_
      refine lv_icmp_ge (tgt := 34) hx hb dX1_keyOf_8 (by decide) (fun c8 => ?_) (fun c8 => ?_)
      · have hk2 : k = e0 := by have := nI_le_of (by omega) c8 (by omega); omega
        have hl : lv_has ls 5 [(0, .ref ta), (1, .int (nI b0)), (2, .int (nI e0)), (3, .int (if e0 - b0 ≤ 4 then wordF tf b0 (e0 - b0) else 0)), (4, .int (nI k))] := by rw [show (if e0 - b0 ≤ 4 then wordF tf b0 (e0 - b0) else 0) = wordF tf b0 (k - b0) by by_cases z : e0 - b0 ≤ 4; rw [if_pos z, hk2]; rw [if_neg z]; exact absurd (h4 (by omega)) z]; exact hl
        refine lv_iload_n hx hb dX1_keyOf_34 rfl (lv_at hl 3 rfl) ?_
        by_cases t35_6710629 : (if e0 - b0 ≤ 4 then wordF tf b0 (e0 - b0) else 0) = 6710629
        · refine lv_lookup (tgt := 70) (off := 35) hx hb dX1_keyOf_35 (by decide) (by rw [t35_6710629]; decide) (by decide) ?_
          refine lv_iconst (v := 1) hx hb dX1_keyOf_70 (by decide) ?_
          exact s_iret cf hr hlk () hw (by unfold keyM; rw [if_pos t35_6710629]) (Nat.le_of_ble_eq_true rfl) (Nat.le_of_ble_eq_true rfl) dX1_keyOf_71 hQ
        by_cases t35_6711668 : (if e0 - b0 ≤ 4 then wordF tf b0 (e0 - b0) else 0) = 6711668
        · refine lv_lookup (tgt := 68) (off := 33) hx hb dX1_keyOf_35 (by decide) (by rw [t35_6711668]; decide) (by decide) ?_
          refine lv_iconst (v := 0) hx hb dX1_keyOf_68 (by decide) ?_
          exact s_iret cf hr hlk () hw (by unfold keyM; rw [if_neg t35_6710629, if_pos t35_6711668]) (Nat.le_of_ble_eq_true rfl) (Nat.le_of_ble_eq_true rfl) dX1_keyOf_69 hQ
        by_cases t35_1718185573 : (if e0 - b0 ≤ 4 then wordF tf b0 (e0 - b0) else 0) = 1718185573
        · refine lv_lookup (tgt := 72) (off := 37) hx hb dX1_keyOf_35 (by decide) (by rw [t35_1718185573]; decide) (by decide) ?_
          refine lv_iconst (v := 2) hx hb dX1_keyOf_72 (by decide) ?_
          exact s_iret cf hr hlk () hw (by unfold keyM; rw [if_neg t35_6710629, if_neg t35_6711668, if_pos t35_1718185573]) (Nat.le_of_ble_eq_true rfl) (Nat.le_of_ble_eq_true rfl) dX1_keyOf_73 hQ
        refine lv_lookup (tgt := 74) (off := 39) hx hb dX1_keyOf_35 (by decide) (by rw [show (_ : Array (Int × Int)).toList = [(6710629, 35), (6711668, 33), (1718185573, 37)] from rfl, lv_osw (a := 6710629) t35_6710629 rfl, lv_osw (a := 6711668) t35_6711668 rfl, lv_osw (a := 1718185573) t35_1718185573 rfl]; rfl) (by decide) ?_
        refine lv_iconst (v := (-1)) hx hb dX1_keyOf_74 (by decide) ?_
        exact s_iret cf hr hlk () hw (by unfold keyM; rw [if_neg t35_6710629, if_neg t35_6711668, if_neg t35_1718185573]) (Nat.le_of_ble_eq_true rfl) (Nat.le_of_ble_eq_true rfl) dX1_keyOf_75 hQ
      · have hlt : k < e0 := nI_lt_of (by omega) c8 (by omega)
        refine lv_iload_n hx hb dX1_keyOf_11 rfl (lv_at hl 2 rfl) ?_
        refine lv_iload_n hx hb dX1_keyOf_12 rfl (lv_at hl 1 rfl) ?_
        refine lv_isub hx hb dX1_keyOf_13 ?_
        refine lv_topr (y := nI (e0 - b0)) (pk_sub hbe) ?_
        refine lv_iconst (v := 4) hx hb dX1_keyOf_14 (by decide) ?_
        refine lv_icmp_gt (tgt := 34) hx hb dX1_keyOf_15 (by decide) (fun c15 => ?_) (fun c15 => ?_)
        · have h45 : ¬ e0 - b0 ≤ 4 := fun z => absurd (nI_le (b := 4) z (by omega)) (Int32.not_le.mpr c15)
          have hkb : k = b0 := by rcases Nat.lt_or_ge b0 k with z | z; exact absurd (h4 z) h45; omega
          have hl : lv_has ls 5 [(0, .ref ta), (1, .int (nI b0)), (2, .int (nI e0)), (3, .int (if e0 - b0 ≤ 4 then wordF tf b0 (e0 - b0) else 0)), (4, .int (nI k))] := by rw [show (if e0 - b0 ≤ 4 then wordF tf b0 (e0 - b0) else 0) = wordF tf b0 (k - b0) by rw [if_neg h45, hkb, Nat.sub_self]; rfl]; exact hl
          refine lv_iload_n hx hb dX1_keyOf_34 rfl (lv_at hl 3 rfl) ?_
          by_cases t35_6710629 : (if e0 - b0 ≤ 4 then wordF tf b0 (e0 - b0) else 0) = 6710629
          · refine lv_lookup (tgt := 70) (off := 35) hx hb dX1_keyOf_35 (by decide) (by rw [t35_6710629]; decide) (by decide) ?_
            refine lv_iconst (v := 1) hx hb dX1_keyOf_70 (by decide) ?_
            exact s_iret cf hr hlk () hw (by unfold keyM; rw [if_pos t35_6710629]) (Nat.le_of_ble_eq_true rfl) (Nat.le_of_ble_eq_true rfl) dX1_keyOf_71 hQ
          by_cases t35_6711668 : (if e0 - b0 ≤ 4 then wordF tf b0 (e0 - b0) else 0) = 6711668
          · refine lv_lookup (tgt := 68) (off := 33) hx hb dX1_keyOf_35 (by decide) (by rw [t35_6711668]; decide) (by decide) ?_
            refine lv_iconst (v := 0) hx hb dX1_keyOf_68 (by decide) ?_
            exact s_iret cf hr hlk () hw (by unfold keyM; rw [if_neg t35_6710629, if_pos t35_6711668]) (Nat.le_of_ble_eq_true rfl) (Nat.le_of_ble_eq_true rfl) dX1_keyOf_69 hQ
          by_cases t35_1718185573 : (if e0 - b0 ≤ 4 then wordF tf b0 (e0 - b0) else 0) = 1718185573
          · refine lv_lookup (tgt := 72) (off := 37) hx hb dX1_keyOf_35 (by decide) (by rw [t35_1718185573]; decide) (by decide) ?_
            refine lv_iconst (v := 2) hx hb dX1_keyOf_72 (by decide) ?_
            exact s_iret cf hr hlk () hw (by unfold keyM; rw [if_neg t35_6710629, if_neg t35_6711668, if_pos t35_1718185573]) (Nat.le_of_ble_eq_true rfl) (Nat.le_of_ble_eq_true rfl) dX1_keyOf_73 hQ
          refine lv_lookup (tgt := 74) (off := 39) hx hb dX1_keyOf_35 (by decide) (by rw [show (_ : Array (Int × Int)).toList = [(6710629, 35), (6711668, 33), (1718185573, 37)] from rfl, lv_osw (a := 6710629) t35_6710629 rfl, lv_osw (a := 6711668) t35_6711668 rfl, lv_osw (a := 1718185573) t35_1718185573 rfl]; rfl) (by decide) ?_
          refine lv_iconst (v := (-1)) hx hb dX1_keyOf_74 (by decide) ?_
          exact s_iret cf hr hlk () hw (by unfold keyM; rw [if_neg t35_6710629, if_neg t35_6711668, if_neg t35_1718185573]) (Nat.le_of_ble_eq_true rfl) (Nat.le_of_ble_eq_true rfl) dX1_keyOf_75 hQ
        · have h44 : e0 - b0 ≤ 4 := by rcases Nat.lt_or_ge 4 (e0 - b0) with z | z; exact absurd (nI_lt (a := 4) z (by omega)) c15; exact z
          refine lv_iload_n hx hb dX1_keyOf_18 rfl (lv_at hl 3 rfl) ?_
          refine lv_bipush (v := 8) hx hb dX1_keyOf_19 (by decide) ?_
          refine lv_ishl hx hb dX1_keyOf_21 ?_
          refine lv_aload_n hx hb dX1_keyOf_22 rfl (lv_at hl 0 rfl) ?_
          refine lv_iload hx hb dX1_keyOf_23 (lv_at hl 4 rfl) ?_
          refine s_iald (j := k) cf hw 0 rfl (rfl) (by omega) rfl dX1_keyOf_25 ?_
          refine lv_ior hx hb dX1_keyOf_26 ?_
          refine lv_topr (y := wordF tf b0 (k + 1 - b0)) (by rw [show k + 1 - b0 = (k - b0) + 1 by omega]; show _ = (wordF tf b0 (k - b0) <<< ((8 : Int32) &&& 31)) ||| tf (b0 + (k - b0)); rw [show b0 + (k - b0) = k by omega]) ?_
          refine lv_istore_n (lv' := [(3, .int (wordF tf b0 (k + 1 - b0))), (0, .ref ta), (1, .int (nI b0)), (2, .int (nI e0)), (4, .int (nI k))]) hx hb dX1_keyOf_27 rfl hl (by decide) rfl (fun ls hl => ?_)
          refine lv_iinc (v := nI (k + 1)) (lv' := [(4, .int (nI (k + 1))), (3, .int (wordF tf b0 (k + 1 - b0))), (0, .ref ta), (1, .int (nI b0)), (2, .int (nI e0))]) hx hb dX1_keyOf_28 hl (k := 4) rfl (nI_1 k) (by decide) rfl (fun ls hl => ?_)
          refine lv_goto (tgt := 5) hx hb dX1_keyOf_31 (by decide) ?_
          exact ih5 (k + 1) (by omega) (by omega) (fun _ => h44) (by omega) _ _ _ hw (lv_sub hl [2, 3, 4, 1, 0] rfl)
  have hl : lv_has ls 5 [(4, .int (nI b0)), (3, .int (wordF tf b0 (b0 - b0))), (0, .ref ta), (1, .int (nI b0)), (2, .int (nI e0))] := by rw [show wordF tf b0 (b0 - b0) = 0 by rw [Nat.sub_self]; rfl]; exact hl
  exact L5 (e0 + 1) b0 (by omega) (by omega) (fun z => absurd z (by omega)) (by omega) _ _ _ hw (lv_sub hl [2, 3, 4, 1, 0] rfl)
set_option maxRecDepth 100000 in
set_option maxHeartbeats 4000000 in
theorem x_namesOf {l : Launch} {g : GG} (ky : Int32) : Ct l g yX1_namesOf cX1_namesOf 1 (Option.some (Jvm.ClassFile.FieldType.object "java/lang/String")) 0 0 0 [.int ky] [] (QQ g (fun r (_ : Unit) => r = some (g.2.2 (10 + nsI ky))) (fun _ => [])) := by
  refine Ct.of (by decide) rfl ?_
  intro p e s m args below meth c A H locs ls Qf cf hr hlk hnm hQ hw hl
  have hx := cf.1
  have hb := cf.2.1
  have hml := cf.2.2.1
  have hown := cf.2.2.2.1
  have hts := cf.2.2.2.2
  have hw : WD g A s H locs [] := hw
  have hl : lv_has ls 1 [(0, .int ky)] := hl
  refine lv_iload_n hx hb dX1_namesOf_0 rfl (lv_at hl 0 rfl) ?_
  by_cases t1_0 : ky = 0
  · refine lv_lookup (tgt := 28) (off := 27) hx hb dX1_namesOf_1 (by decide) (by rw [t1_0]; decide) (by decide) ?_
    refine va_ldcS hx hb hown hw.2.2.2.2.2.2.2.2.2.2.2.2.2.1.2.2.1 dX1_namesOf_28 ?_
    refine lv_topv (y := .ref (g.2.2 (10 + 1))) rfl ?_
    exact s_aret (v := (some (g.2.2 (10 + 1)))) cf hr hlk () hw (by unfold nsI; rw [if_pos t1_0]) (Nat.le_of_ble_eq_true rfl) (Nat.le_of_ble_eq_true rfl) dX1_namesOf_30 hQ
  by_cases t1_1 : ky = 1
  · refine lv_lookup (tgt := 31) (off := 30) hx hb dX1_namesOf_1 (by decide) (by rw [t1_1]; decide) (by decide) ?_
    refine va_ldcS hx hb hown hw.2.2.2.2.2.2.2.2.2.2.2.2.2.1.2.2.2.1 dX1_namesOf_31 ?_
    refine lv_topv (y := .ref (g.2.2 (10 + 2))) rfl ?_
    exact s_aret (v := (some (g.2.2 (10 + 2)))) cf hr hlk () hw (by unfold nsI; rw [if_neg t1_0, if_pos t1_1]) (Nat.le_of_ble_eq_true rfl) (Nat.le_of_ble_eq_true rfl) dX1_namesOf_33 hQ
  refine lv_lookup (tgt := 34) (off := 33) hx hb dX1_namesOf_1 (by decide) (by rw [show (_ : Array (Int × Int)).toList = [(0, 27), (1, 30)] from rfl, lv_osw (a := 0) t1_0 rfl, lv_osw (a := 1) t1_1 rfl]; rfl) (by decide) ?_
  refine va_ldcS hx hb hown hw.2.2.2.2.2.2.2.2.2.2.2.2.2.1.2.2.2.2 dX1_namesOf_34 ?_
  refine lv_topv (y := .ref (g.2.2 (10 + 3))) rfl ?_
  exact s_aret (v := (some (g.2.2 (10 + 3)))) cf hr hlk () hw (by unfold nsI; rw [if_neg t1_0, if_neg t1_1]) (Nat.le_of_ble_eq_true rfl) (Nat.le_of_ble_eq_true rfl) dX1_namesOf_36 hQ
