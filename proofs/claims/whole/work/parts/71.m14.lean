set_option maxRecDepth 100000 in
set_option maxHeartbeats 4000000 in
theorem m_isRow {l : Launch} {g : GG} {a : Nat} {ad : Nat → Nat} {ik ky wt : Int32} {bg0 tk0 cd0 wo0 op0 nt0 wr0 bw0 : Int32} {va0 : Int64} {tf : DD} {ee tp : Nat} (htp : tp ≤ 96) (he : ee ≤ tp) (lo hi : Int32) : Ct l g yX7_isRow cX7_isRow 3 (Option.some Jvm.ClassFile.FieldType.boolean) 1 0 0 [.ref a, .int lo, .int hi] [bO a 7 (mF ad ik (nI tp) (nI ee) bg0 tk0 va0 cd0 wo0 ky op0 nt0 wr0 bw0 wt), bI g (ad 10) 96 tf] (QI g (fun r (_ : Unit) => r = if ee < tp ∧ (lo ≤ tf ee ∧ tf ee ≤ hi) then 1 else 0) (fun _ => [bO a 7 (mF ad ik (nI tp) (nI ee) bg0 tk0 va0 cd0 wo0 ky op0 nt0 wr0 bw0 wt), bI g (ad 10) 96 tf])) := by
  refine Ct.of (by decide) rfl ?_
  intro p e s m args below meth c A H locs ls Qf cf hr hlk hnm hQ hw hl
  have hx := cf.1
  have hb := cf.2.1
  have hml := cf.2.2.1
  have hown := cf.2.2.2.1
  have hts := cf.2.2.2.2
  have hw : WD g A s H locs [bO a 7 (mF ad ik (nI tp) (nI ee) bg0 tk0 va0 cd0 wo0 ky op0 nt0 wr0 bw0 wt), bI g (ad 10) 96 tf] := hw
  have hl : lv_has ls 3 [(0, .ref a), (1, .int lo), (2, .int hi)] := hl
  refine lv_aload_n hx hb dX7_isRow_0 rfl (lv_at hl 0 rfl) ?_
  refine s_get (v := .int (nI ee)) fb7 cf hw 0 rfl 12 rfl q933 rfl dX7_isRow_1 ?_
  refine lv_aload_n hx hb dX7_isRow_4 rfl (lv_at hl 0 rfl) ?_
  refine s_get (v := .int (nI tp)) fb7 cf hw 0 rfl 11 rfl q932 rfl dX7_isRow_5 ?_
  refine lv_icmp_ge (tgt := 35) hx hb dX7_isRow_8 (by decide) (fun c8 => ?_) (fun c8 => ?_)
  · have hel : ¬ ee < tp := by have := nI_le_of (by omega) c8 (by omega); omega
    refine lv_iconst (v := 0) hx hb dX7_isRow_35 (by decide) ?_
    exact s_zret cf hr hlk () hw ((if_neg (fun z => hel z.1)).symm) rfl (Nat.le_of_ble_eq_true rfl) (Nat.le_of_ble_eq_true rfl) dX7_isRow_36 hQ
  · have hel : ee < tp := nI_lt_of (by omega) c8 (by omega)
    refine lv_aload_n hx hb dX7_isRow_11 rfl (lv_at hl 0 rfl) ?_
    refine s_get (v := .ref (ad 10)) fb7 cf hw 0 rfl 10 rfl q931 rfl dX7_isRow_12 ?_
    refine lv_aload_n hx hb dX7_isRow_15 rfl (lv_at hl 0 rfl) ?_
    refine s_get (v := .int (nI ee)) fb7 cf hw 0 rfl 12 rfl q933 rfl dX7_isRow_16 ?_
    refine s_iald (j := ee) cf hw 1 rfl (rfl) (by omega) rfl dX7_isRow_19 ?_
    refine lv_i2l (v := (tf ee : Int32).toInt64) hx hb dX7_isRow_20 rfl ?_
    refine lv_iload_n hx hb dX7_isRow_21 rfl (lv_at hl 1 rfl) ?_
    refine lv_i2l (v := (lo : Int32).toInt64) hx hb dX7_isRow_22 rfl ?_
    refine lv_iload_n hx hb dX7_isRow_23 rfl (lv_at hl 2 rfl) ?_
    refine lv_i2l (v := (hi : Int32).toInt64) hx hb dX7_isRow_24 rfl ?_
    refine s_calli (runS cf (m_in (tf ee : Int32) (lo : Int32) (hi : Int32)) hw [] (by decide) rfl km_X7_in ks_X7_in q1045 rfl rfl hl.1 rfl dX7_isRow_25) hw [] (by decide) rfl (fun _ => rfl) (fun r_3 u_1 H locs hp_2 hw => ?_)
    have hw : WD g A s H locs [bO a 7 (mF ad ik (nI tp) (nI ee) bg0 tk0 va0 cd0 wo0 ky op0 nt0 wr0 bw0 wt), bI g (ad 10) 96 tf] := hw
    subst hp_2
    refine lv_if_eq (tgt := 35) hx hb dX7_isRow_28 (by decide) (fun c28 => ?_) (fun c28 => ?_)
    · have c28 := b01_z c28
      refine lv_iconst (v := 0) hx hb dX7_isRow_35 (by decide) ?_
      exact s_zret cf hr hlk () hw ((if_neg (fun z => c28 z.2)).symm) rfl (Nat.le_of_ble_eq_true rfl) (Nat.le_of_ble_eq_true rfl) dX7_isRow_36 hQ
    · have c28 := b01_n c28
      refine lv_iconst (v := 1) hx hb dX7_isRow_31 (by decide) ?_
      refine lv_goto (tgt := 36) hx hb dX7_isRow_32 (by decide) ?_
      exact s_zret cf hr hlk () hw ((if_pos ⟨hel, c28⟩).symm) rfl (Nat.le_of_ble_eq_true rfl) (Nat.le_of_ble_eq_true rfl) dX7_isRow_36 hQ
set_option maxRecDepth 100000 in
set_option maxHeartbeats 4000000 in
theorem m_next {l : Launch} {g : GG} {a : Nat} {ad : Nat → Nat} {ik ky wt : Int32} {bg0 tk0 cd0 wo0 op0 nt0 wr0 : Int32} {va0 : Int64} {tf : DD} {at_ bw tp : Nat} (htp : tp ≤ 96) (hat : at_ ≤ tp) (hbw : bw < 1073741824) : Ct l g yX7_next cX7_next 3 (Option.none : Option Jvm.ClassFile.FieldType) 2 0 0 [.ref a] [bO a 7 (mF ad ik (nI tp) (nI at_) bg0 tk0 va0 cd0 wo0 ky op0 nt0 wr0 (nI bw) wt), bI g (ad 10) 96 tf] (QV g (fun (_ : Unit) => True) (fun _ => [bO a 7 (mF ad ik (nI tp) (nI (lexF tf tp at_ bw).2.1) (nI (lexF tf tp at_ bw).1) ((lexF tf tp at_ bw).2.2.2.1) ((lexF tf tp at_ bw).2.2.2.2) cd0 wo0 ky op0 nt0 wr0 (nI (lexF tf tp at_ bw).2.2.1) wt), bI g (ad 10) 96 tf])) := by
  refine Ct.of (by decide) rfl ?_
  intro p e s m args below meth c A H locs ls Qf cf hr hlk hnm hQ hw hl
  have hx := cf.1
  have hb := cf.2.1
  have hml := cf.2.2.1
  have hown := cf.2.2.2.1
  have hts := cf.2.2.2.2
  have hw : WD g A s H locs [bO a 7 (mF ad ik (nI tp) (nI at_) bg0 tk0 va0 cd0 wo0 ky op0 nt0 wr0 (nI bw) wt), bI g (ad 10) 96 tf] := hw
  have hl : lv_has ls 3 [(0, .ref a)] := hl
  have L0 : ∀ (fu : Nat) (k : Nat), (k ≤ tp) → (tp < k + fu) → (skipB tf tp at_ = lst (fun j => ¬ tf j = 32) (tp - k) k) → ∀ (H : Heap) (locs : List Loc) (ls : Array Slot), WD g A s H locs [bO a 7 (mF ad ik (nI tp) (nI k) bg0 tk0 va0 cd0 wo0 ky op0 nt0 wr0 (nI bw) wt), bI g (ad 10) 96 tf] → lv_has ls 3 [(0, .ref a)] → W p l e (rmx 2 0 0) s m args below meth c H locs 0 0 Qf (F0 m 0 ls []) := by
    intro fu
    induction fu with
    | zero => intro k hk hfu hls; exfalso; omega
    | succ fu ih0 =>
      intro k hk hfu hls H locs ls hw hl
      refine lv_aload_n hx hb dX7_next_0 rfl (lv_at hl 0 rfl) ?_
      refine s_get (v := .int (nI k)) fb7 cf hw 0 rfl 12 rfl q933 rfl dX7_next_1 ?_
      refine lv_aload_n hx hb dX7_next_4 rfl (lv_at hl 0 rfl) ?_
      refine s_get (v := .int (nI tp)) fb7 cf hw 0 rfl 11 rfl q932 rfl dX7_next_5 ?_
      refine lv_icmp_ge (tgt := 38) hx hb dX7_next_8 (by decide) (fun c8 => ?_) (fun c8 => ?_)
      · have hkt : k = tp := by have := nI_le_of (by omega) c8 (by omega); omega
        have hsk : skipB tf tp at_ = k := hls.trans (lst_end (by omega))
        refine lv_aload_n hx hb dX7_next_38 rfl (lv_at hl 0 rfl) ?_
        refine lv_aload_n hx hb dX7_next_39 rfl (lv_at hl 0 rfl) ?_
        refine s_get (v := .int (nI k)) fb7 cf hw 0 rfl 12 rfl q933 rfl dX7_next_40 ?_
        refine s_put (v := .int (nI k)) fb7 cf hw 0 rfl 13 rfl q934 rfl rfl rfl rfl dX7_next_43 (fun H locs hw => ?_)
        have hw : WD g A s H locs [bO a 7 (mF ad ik (nI tp) (nI k) (nI k) tk0 va0 cd0 wo0 ky op0 nt0 wr0 (nI bw) wt), bI g (ad 10) 96 tf] := hw
        refine lv_aload_n hx hb dX7_next_46 rfl (lv_at hl 0 rfl) ?_
        refine lv_lconst (v := 0) hx hb dX7_next_47 rfl ?_
        refine s_put (v := .long 0) fb7 cf hw 0 rfl 15 rfl q936 rfl rfl rfl rfl dX7_next_48 (fun H locs hw => ?_)
        have hw : WD g A s H locs [bO a 7 (mF ad ik (nI tp) (nI k) (nI k) tk0 0 cd0 wo0 ky op0 nt0 wr0 (nI bw) wt), bI g (ad 10) 96 tf] := hw
        refine lv_aload_n hx hb dX7_next_51 rfl (lv_at hl 0 rfl) ?_
        refine s_get (v := .int (nI k)) fb7 cf hw 0 rfl 12 rfl q933 rfl dX7_next_52 ?_
        refine lv_aload_n hx hb dX7_next_55 rfl (lv_at hl 0 rfl) ?_
        refine s_get (v := .int (nI tp)) fb7 cf hw 0 rfl 11 rfl q932 rfl dX7_next_56 ?_
        refine lv_icmp_ne (tgt := 68) hx hb dX7_next_59 (by decide) (fun c59 => ?_) (fun c59 => ?_)
        · exact absurd (by rw [hkt]) c59
        · refine lv_aload_n hx hb dX7_next_62 rfl (lv_at hl 0 rfl) ?_
          refine lv_iconst (v := 0) hx hb dX7_next_63 (by decide) ?_
          refine s_put (v := .int 0) fb7 cf hw 0 rfl 14 rfl q935 rfl rfl rfl rfl dX7_next_64 (fun H locs hw => ?_)
          have hw : WD g A s H locs [bO a 7 (mF ad ik (nI tp) (nI k) (nI k) 0 0 cd0 wo0 ky op0 nt0 wr0 (nI bw) wt), bI g (ad 10) 96 tf] := hw
          exact s_vret cf hr hlk () (by rw [lx_end hsk hkt]; exact hw) trivial (Nat.le_of_ble_eq_true rfl) (Nat.le_of_ble_eq_true rfl) dX7_next_67 hQ
      · have hlt : k < tp := nI_lt_of (by omega) c8 (by omega)
        refine lv_aload_n hx hb dX7_next_11 rfl (lv_at hl 0 rfl) ?_
        refine s_get (v := .ref (ad 10)) fb7 cf hw 0 rfl 10 rfl q931 rfl dX7_next_12 ?_
        refine lv_aload_n hx hb dX7_next_15 rfl (lv_at hl 0 rfl) ?_
        refine s_get (v := .int (nI k)) fb7 cf hw 0 rfl 12 rfl q933 rfl dX7_next_16 ?_
        refine s_iald (j := k) cf hw 1 rfl (rfl) (by omega) rfl dX7_next_19 ?_
        refine lv_bipush (v := 32) hx hb dX7_next_20 (by decide) ?_
        refine lv_icmp_ne (tgt := 38) hx hb dX7_next_22 (by decide) (fun c22 => ?_) (fun c22 => ?_)
        · have hsk : skipB tf tp at_ = k := hls.trans (lst_stop hlt c22)
          have hne : ¬ k = tp := by omega
          refine lv_aload_n hx hb dX7_next_38 rfl (lv_at hl 0 rfl) ?_
          refine lv_aload_n hx hb dX7_next_39 rfl (lv_at hl 0 rfl) ?_
          refine s_get (v := .int (nI k)) fb7 cf hw 0 rfl 12 rfl q933 rfl dX7_next_40 ?_
          refine s_put (v := .int (nI k)) fb7 cf hw 0 rfl 13 rfl q934 rfl rfl rfl rfl dX7_next_43 (fun H locs hw => ?_)
          have hw : WD g A s H locs [bO a 7 (mF ad ik (nI tp) (nI k) (nI k) tk0 va0 cd0 wo0 ky op0 nt0 wr0 (nI bw) wt), bI g (ad 10) 96 tf] := hw
          refine lv_aload_n hx hb dX7_next_46 rfl (lv_at hl 0 rfl) ?_
          refine lv_lconst (v := 0) hx hb dX7_next_47 rfl ?_
          refine s_put (v := .long 0) fb7 cf hw 0 rfl 15 rfl q936 rfl rfl rfl rfl dX7_next_48 (fun H locs hw => ?_)
          have hw : WD g A s H locs [bO a 7 (mF ad ik (nI tp) (nI k) (nI k) tk0 0 cd0 wo0 ky op0 nt0 wr0 (nI bw) wt), bI g (ad 10) 96 tf] := hw
          refine lv_aload_n hx hb dX7_next_51 rfl (lv_at hl 0 rfl) ?_
          refine s_get (v := .int (nI k)) fb7 cf hw 0 rfl 12 rfl q933 rfl dX7_next_52 ?_
          refine lv_aload_n hx hb dX7_next_55 rfl (lv_at hl 0 rfl) ?_
          refine s_get (v := .int (nI tp)) fb7 cf hw 0 rfl 11 rfl q932 rfl dX7_next_56 ?_
          refine lv_icmp_ne (tgt := 68) hx hb dX7_next_59 (by decide) (fun c59 => ?_) (fun c59 => ?_)
          · refine lv_aload_n hx hb dX7_next_68 rfl (lv_at hl 0 rfl) ?_
            refine lv_bipush (v := 97) hx hb dX7_next_69 (by decide) ?_
            refine lv_bipush (v := 122) hx hb dX7_next_71 (by decide) ?_
            refine s_calli (runV cf (m_isRow (ik := ik) (ky := ky) (wt := wt) (bg0 := nI k) (tk0 := tk0) (va0 := 0) (cd0 := cd0) (wo0 := wo0) (op0 := op0) (nt0 := nt0) (wr0 := wr0) (bw0 := nI bw) (tf := tf) (ee := k) (tp := tp) (by omega) (by omega) 97 122) hw [0, 1] (by decide) rfl km_X7_isRow ki_X7_isRow q1272 (run_recv (ci := 7) (T := TX7) (N := 39) hw 0 rfl rfl) rfl rfl hl.1 rfl dX7_next_73) hw [0, 1] (by decide) rfl (fun _ => rfl) (fun r_3 u_1 H locs hp_2 hw => ?_)
            have hw : WD g A s H locs [bO a 7 (mF ad ik (nI tp) (nI k) (nI k) tk0 0 cd0 wo0 ky op0 nt0 wr0 (nI bw) wt), bI g (ad 10) 96 tf] := hw
            subst hp_2
            refine lv_istore_n (lv' := [(1, .int (if k < tp ∧ (97 ≤ tf k ∧ tf k ≤ 122) then 1 else 0)), (0, .ref a)]) hx hb dX7_next_76 rfl hl (by decide) rfl (fun ls hl => ?_)
            refine lv_aload_n hx hb dX7_next_77 rfl (lv_at hl 1 rfl) ?_
            refine lv_bipush (v := 48) hx hb dX7_next_78 (by decide) ?_
            refine lv_bipush (v := 57) hx hb dX7_next_80 (by decide) ?_
            refine s_calli (runV cf (m_isRow (ik := ik) (ky := ky) (wt := wt) (bg0 := nI k) (tk0 := tk0) (va0 := 0) (cd0 := cd0) (wo0 := wo0) (op0 := op0) (nt0 := nt0) (wr0 := wr0) (bw0 := nI bw) (tf := tf) (ee := k) (tp := tp) (by omega) (by omega) 48 57) hw [0, 1] (by decide) rfl km_X7_isRow ki_X7_isRow q1272 (run_recv (ci := 7) (T := TX7) (N := 39) hw 0 rfl rfl) rfl rfl hl.1 rfl dX7_next_82) hw [0, 1] (by decide) rfl (fun _ => rfl) (fun r_6 u_4 H locs hp_5 hw => ?_)
            have hw : WD g A s H locs [bO a 7 (mF ad ik (nI tp) (nI k) (nI k) tk0 0 cd0 wo0 ky op0 nt0 wr0 (nI bw) wt), bI g (ad 10) 96 tf] := hw
            subst hp_5
            refine lv_istore_n (lv' := [(2, .int (if k < tp ∧ (48 ≤ tf k ∧ tf k ≤ 57) then 1 else 0)), (1, .int (if k < tp ∧ (97 ≤ tf k ∧ tf k ≤ 122) then 1 else 0)), (0, .ref a)]) hx hb dX7_next_85 rfl hl (by decide) rfl (fun ls hl => ?_)
            refine lv_iload_n hx hb dX7_next_86 rfl (lv_at hl 1 rfl) ?_
            refine lv_if_eq (tgt := 199) hx hb dX7_next_87 (by decide) (fun c87 => ?_) (fun c87 => ?_)
            · have c87 := b01_z c87
              have hL : ¬ isLt (tf k) := fun z => c87 ⟨hlt, z⟩
              refine lv_iload_n hx hb dX7_next_199 rfl (lv_at hl 0 rfl) ?_
              refine lv_if_eq (tgt := 308) hx hb dX7_next_200 (by decide) (fun c200 => ?_) (fun c200 => ?_)
              · have c200 := b01_z c200
                have hD : ¬ isDg (tf k) := fun z => c200 ⟨hlt, z⟩
                refine lv_aload_n hx hb dX7_next_308 rfl (lv_at hl 2 rfl) ?_
                refine lv_iconst (v := 3) hx hb dX7_next_309 (by decide) ?_
                refine s_put (v := .int 3) fb7 cf hw 0 rfl 14 rfl q935 rfl rfl rfl rfl dX7_next_310 (fun H locs hw => ?_)
                have hw : WD g A s H locs [bO a 7 (mF ad ik (nI tp) (nI k) (nI k) 3 0 cd0 wo0 ky op0 nt0 wr0 (nI bw) wt), bI g (ad 10) 96 tf] := hw
                refine lv_aload_n hx hb dX7_next_313 rfl (lv_at hl 2 rfl) ?_
                refine lv_aload_n hx hb dX7_next_314 rfl (lv_at hl 2 rfl) ?_
                refine s_get (v := .ref (ad 10)) fb7 cf hw 0 rfl 10 rfl q931 rfl dX7_next_315 ?_
                refine lv_aload_n hx hb dX7_next_318 rfl (lv_at hl 2 rfl) ?_
                refine s_get (v := .int (nI k)) fb7 cf hw 0 rfl 12 rfl q933 rfl dX7_next_319 ?_
                refine s_iald (j := k) cf hw 1 rfl (rfl) (by omega) rfl dX7_next_322 ?_
                refine lv_i2l (v := (tf k : Int32).toInt64) hx hb dX7_next_323 rfl ?_
                refine s_put (v := .long ((tf k : Int32).toInt64)) fb7 cf hw 0 rfl 15 rfl q936 rfl rfl rfl rfl dX7_next_324 (fun H locs hw => ?_)
                have hw : WD g A s H locs [bO a 7 (mF ad ik (nI tp) (nI k) (nI k) 3 ((tf k : Int32).toInt64) cd0 wo0 ky op0 nt0 wr0 (nI bw) wt), bI g (ad 10) 96 tf] := hw
                refine lv_aload_n hx hb dX7_next_327 rfl (lv_at hl 2 rfl) ?_
                refine lv_dup hx hb dX7_next_328 rfl ?_
                refine s_get (v := .int (nI k)) fb7 cf hw 0 rfl 12 rfl q933 rfl dX7_next_329 ?_
                refine lv_iconst (v := 1) hx hb dX7_next_332 (by decide) ?_
                refine lv_iadd hx hb dX7_next_333 ?_
                refine lv_topr (y := nI (k + 1)) (nI_1 k) ?_
                refine s_put (v := .int (nI (k + 1))) fb7 cf hw 0 rfl 12 rfl q933 rfl rfl rfl rfl dX7_next_334 (fun H locs hw => ?_)
                have hw : WD g A s H locs [bO a 7 (mF ad ik (nI tp) (nI (k + 1)) (nI k) 3 ((tf k : Int32).toInt64) cd0 wo0 ky op0 nt0 wr0 (nI bw) wt), bI g (ad 10) 96 tf] := hw
                refine lv_iload_n hx hb dX7_next_337 rfl (lv_at hl 1 rfl) ?_
                refine lv_if_ne (tgt := 345) hx hb dX7_next_338 (by decide) (fun c338 => ?_) (fun c338 => ?_)
                · have c338 := b01_n c338
                  exact (hL c338.2).elim
                · have c338 := b01_z c338
                  refine lv_iload_n hx hb dX7_next_341 rfl (lv_at hl 0 rfl) ?_
                  refine lv_if_eq (tgt := 383) hx hb dX7_next_342 (by decide) (fun c342 => ?_) (fun c342 => ?_)
                  · have c342 := b01_z c342
                    exact s_vret cf hr hlk () (by rw [lx_sgn hsk hne hL hD]; exact hw) trivial (Nat.le_of_ble_eq_true rfl) (Nat.le_of_ble_eq_true rfl) dX7_next_383 hQ
                  · have c342 := b01_n c342
                    exact (hD c342.2).elim
              · have c200 := b01_n c200
                have hD : isDg (tf k) := c200.2
                refine lv_aload_n hx hb dX7_next_203 rfl (lv_at hl 2 rfl) ?_
                refine lv_iconst (v := 2) hx hb dX7_next_204 (by decide) ?_
                refine s_put (v := .int 2) fb7 cf hw 0 rfl 14 rfl q935 rfl rfl rfl rfl dX7_next_205 (fun H locs hw => ?_)
                have hw : WD g A s H locs [bO a 7 (mF ad ik (nI tp) (nI k) (nI k) 2 0 cd0 wo0 ky op0 nt0 wr0 (nI bw) wt), bI g (ad 10) 96 tf] := hw
                have L208 : ∀ (fu : Nat) (ee : Nat), (k ≤ ee) → (ee ≤ tp) → (tp < ee + fu) → (endD tf tp k = lst (fun j => ¬ isDg (tf j)) (tp - ee) ee) → ∀ (H : Heap) (locs : List Loc) (ls : Array Slot), WD g A s H locs [bO a 7 (mF ad ik (nI tp) (nI ee) (nI k) 2 (v10 tf k (ee - k)) cd0 wo0 ky op0 nt0 wr0 (nI bw) wt), bI g (ad 10) 96 tf] → lv_has ls 3 [(0, .ref a), (1, .int (if k < tp ∧ (97 ≤ tf k ∧ tf k ≤ 122) then 1 else 0)), (2, .int (if k < tp ∧ (48 ≤ tf k ∧ tf k ≤ 57) then 1 else 0))] → W p l e (rmx 2 0 0) s m args below meth c H locs 0 0 Qf (F0 m 208 ls []) := by
                  intro fu
                  induction fu with
                  | zero => intro ee hke hep hfe hee; exfalso; omega
                  | succ fu ih208 =>
                    intro ee hke hep hfe hee H locs ls hw hl
                    refine lv_aload_n hx hb dX7_next_208 rfl (lv_at hl 0 rfl) ?_
                    refine lv_bipush (v := 48) hx hb dX7_next_209 (by decide) ?_
                    refine lv_bipush (v := 57) hx hb dX7_next_211 (by decide) ?_
                    refine s_calli (runV cf (m_isRow (ik := ik) (ky := ky) (wt := wt) (bg0 := nI k) (tk0 := 2) (va0 := v10 tf k (ee - k)) (cd0 := cd0) (wo0 := wo0) (op0 := op0) (nt0 := nt0) (wr0 := wr0) (bw0 := nI bw) (tf := tf) (ee := ee) (tp := tp) (by omega) (by omega) 48 57) hw [0, 1] (by decide) rfl km_X7_isRow ki_X7_isRow q1272 (run_recv (ci := 7) (T := TX7) (N := 39) hw 0 rfl rfl) rfl rfl hl.1 rfl dX7_next_213) hw [0, 1] (by decide) rfl (fun _ => rfl) (fun r_9 u_7 H locs hp_8 hw => ?_)
                    have hw : WD g A s H locs [bO a 7 (mF ad ik (nI tp) (nI ee) (nI k) 2 (v10 tf k (ee - k)) cd0 wo0 ky op0 nt0 wr0 (nI bw) wt), bI g (ad 10) 96 tf] := hw
                    subst hp_8
                    refine lv_if_eq (tgt := 278) hx hb dX7_next_216 (by decide) (fun c216 => ?_) (fun c216 => ?_)
                    · have c216 := b01_z c216
                      have hE : endD tf tp k = ee := by by_cases z : ee < tp; exact hee.trans (lst_stop z (fun y => c216 ⟨z, y⟩)); exact hee.trans (lst_end z)
                      refine lv_aload_n hx hb dX7_next_278 rfl (lv_at hl 0 rfl) ?_
                      refine lv_aload_n hx hb dX7_next_279 rfl (lv_at hl 0 rfl) ?_
                      refine s_get (v := .int (nI ee)) fb7 cf hw 0 rfl 12 rfl q933 rfl dX7_next_280 ?_
                      refine lv_aload_n hx hb dX7_next_283 rfl (lv_at hl 0 rfl) ?_
                      refine s_get (v := .int (nI k)) fb7 cf hw 0 rfl 13 rfl q934 rfl dX7_next_284 ?_
                      refine lv_isub hx hb dX7_next_287 ?_
                      refine lv_topr (y := nI (ee - k)) (pk_sub hke) ?_
                      refine lv_iconst (v := 4) hx hb dX7_next_288 (by decide) ?_
                      refine lv_icmp_le (tgt := 298) hx hb dX7_next_289 (by decide) (fun c289 => ?_) (fun c289 => ?_)
                      · refine lv_aload_n hx hb dX7_next_298 rfl (lv_at hl 0 rfl) ?_
                        refine s_get (v := .long (v10 tf k (ee - k))) fb7 cf hw 0 rfl 15 rfl q936 rfl dX7_next_299 ?_
                        refine s_put (v := .long (v10 tf k (ee - k))) fb7 cf hw 0 rfl 15 rfl q936 rfl rfl rfl rfl dX7_next_302 (fun H locs hw => ?_)
                        have hw : WD g A s H locs [bO a 7 (mF ad ik (nI tp) (nI ee) (nI k) 2 (v10 tf k (ee - k)) cd0 wo0 ky op0 nt0 wr0 (nI bw) wt), bI g (ad 10) 96 tf] := hw
                        refine lv_goto (tgt := 337) hx hb dX7_next_305 (by decide) ?_
                        refine lv_iload_n hx hb dX7_next_337 rfl (lv_at hl 1 rfl) ?_
                        refine lv_if_ne (tgt := 345) hx hb dX7_next_338 (by decide) (fun c338 => ?_) (fun c338 => ?_)
                        · have c338 := b01_n c338
                          exact (hL c338.2).elim
                        · have c338 := b01_z c338
                          refine lv_iload_n hx hb dX7_next_341 rfl (lv_at hl 2 rfl) ?_
                          refine lv_if_eq (tgt := 383) hx hb dX7_next_342 (by decide) (fun c342 => ?_) (fun c342 => ?_)
                          · have c342 := b01_z c342
                            exact (c342 ⟨hlt, hD⟩).elim
                          · have c342 := b01_n c342
                            refine lv_aload_n hx hb dX7_next_345 rfl (lv_at hl 0 rfl) ?_
                            refine lv_aload_n hx hb dX7_next_346 rfl (lv_at hl 0 rfl) ?_
                            refine s_get (v := .int (nI k)) fb7 cf hw 0 rfl 13 rfl q934 rfl dX7_next_347 ?_
                            refine lv_if_le (tgt := 368) hx hb dX7_next_350 (by decide) (fun c350 => ?_) (fun c350 => ?_)
                            · have hadj : ¬ (0 < k ∧ k = bw) := fun z => absurd c350 (nI_nle z.1 (by omega))
                              refine lv_aload_n hx hb dX7_next_368 rfl (lv_at hl 0 rfl) ?_
                              refine s_get (v := .int 2) fb7 cf hw 0 rfl 14 rfl q935 rfl dX7_next_369 ?_
                              refine s_put (v := .int 2) fb7 cf hw 0 rfl 14 rfl q935 rfl rfl rfl rfl dX7_next_372 (fun H locs hw => ?_)
                              have hw : WD g A s H locs [bO a 7 (mF ad ik (nI tp) (nI ee) (nI k) 2 (v10 tf k (ee - k)) cd0 wo0 ky op0 nt0 wr0 (nI bw) wt), bI g (ad 10) 96 tf] := hw
                              refine lv_aload_n hx hb dX7_next_375 rfl (lv_at hl 0 rfl) ?_
                              refine lv_aload_n hx hb dX7_next_376 rfl (lv_at hl 0 rfl) ?_
                              refine s_get (v := .int (nI ee)) fb7 cf hw 0 rfl 12 rfl q933 rfl dX7_next_377 ?_
                              refine s_put (v := .int (nI ee)) fb7 cf hw 0 rfl 22 rfl q943 rfl rfl rfl rfl dX7_next_380 (fun H locs hw => ?_)
                              have hw : WD g A s H locs [bO a 7 (mF ad ik (nI tp) (nI ee) (nI k) 2 (v10 tf k (ee - k)) cd0 wo0 ky op0 nt0 wr0 (nI ee) wt), bI g (ad 10) 96 tf] := hw
                              exact s_vret cf hr hlk () (by rw [lx_dig hsk hne hL hD hE, if_neg hadj]; exact hw) trivial (Nat.le_of_ble_eq_true rfl) (Nat.le_of_ble_eq_true rfl) dX7_next_383 hQ
                            · refine lv_aload_n hx hb dX7_next_353 rfl (lv_at hl 0 rfl) ?_
                              refine s_get (v := .int (nI k)) fb7 cf hw 0 rfl 13 rfl q934 rfl dX7_next_354 ?_
                              refine lv_aload_n hx hb dX7_next_357 rfl (lv_at hl 0 rfl) ?_
                              refine s_get (v := .int (nI bw)) fb7 cf hw 0 rfl 22 rfl q943 rfl dX7_next_358 ?_
                              refine lv_icmp_ne (tgt := 368) hx hb dX7_next_361 (by decide) (fun c361 => ?_) (fun c361 => ?_)
                              · have hadj : ¬ (0 < k ∧ k = bw) := fun z => c361 (by rw [z.2])
                                refine lv_aload_n hx hb dX7_next_368 rfl (lv_at hl 0 rfl) ?_
                                refine s_get (v := .int 2) fb7 cf hw 0 rfl 14 rfl q935 rfl dX7_next_369 ?_
                                refine s_put (v := .int 2) fb7 cf hw 0 rfl 14 rfl q935 rfl rfl rfl rfl dX7_next_372 (fun H locs hw => ?_)
                                have hw : WD g A s H locs [bO a 7 (mF ad ik (nI tp) (nI ee) (nI k) 2 (v10 tf k (ee - k)) cd0 wo0 ky op0 nt0 wr0 (nI bw) wt), bI g (ad 10) 96 tf] := hw
                                refine lv_aload_n hx hb dX7_next_375 rfl (lv_at hl 0 rfl) ?_
                                refine lv_aload_n hx hb dX7_next_376 rfl (lv_at hl 0 rfl) ?_
                                refine s_get (v := .int (nI ee)) fb7 cf hw 0 rfl 12 rfl q933 rfl dX7_next_377 ?_
                                refine s_put (v := .int (nI ee)) fb7 cf hw 0 rfl 22 rfl q943 rfl rfl rfl rfl dX7_next_380 (fun H locs hw => ?_)
                                have hw : WD g A s H locs [bO a 7 (mF ad ik (nI tp) (nI ee) (nI k) 2 (v10 tf k (ee - k)) cd0 wo0 ky op0 nt0 wr0 (nI ee) wt), bI g (ad 10) 96 tf] := hw
                                exact s_vret cf hr hlk () (by rw [lx_dig hsk hne hL hD hE, if_neg hadj]; exact hw) trivial (Nat.le_of_ble_eq_true rfl) (Nat.le_of_ble_eq_true rfl) dX7_next_383 hQ
                              · have hadj : 0 < k ∧ k = bw := ⟨by rcases Nat.eq_zero_or_pos k with q | q; exact absurd (by rw [q]; decide) c350; exact q, (nI_eq (by omega) (by omega)).mp c361⟩
                                refine lv_iconst (v := 4) hx hb dX7_next_364 (by decide) ?_
                                refine lv_goto (tgt := 372) hx hb dX7_next_365 (by decide) ?_
                                refine s_put (v := .int 4) fb7 cf hw 0 rfl 14 rfl q935 rfl rfl rfl rfl dX7_next_372 (fun H locs hw => ?_)
                                have hw : WD g A s H locs [bO a 7 (mF ad ik (nI tp) (nI ee) (nI k) 4 (v10 tf k (ee - k)) cd0 wo0 ky op0 nt0 wr0 (nI bw) wt), bI g (ad 10) 96 tf] := hw
                                refine lv_aload_n hx hb dX7_next_375 rfl (lv_at hl 0 rfl) ?_
                                refine lv_aload_n hx hb dX7_next_376 rfl (lv_at hl 0 rfl) ?_
                                refine s_get (v := .int (nI ee)) fb7 cf hw 0 rfl 12 rfl q933 rfl dX7_next_377 ?_
                                refine s_put (v := .int (nI ee)) fb7 cf hw 0 rfl 22 rfl q943 rfl rfl rfl rfl dX7_next_380 (fun H locs hw => ?_)
                                have hw : WD g A s H locs [bO a 7 (mF ad ik (nI tp) (nI ee) (nI k) 4 (v10 tf k (ee - k)) cd0 wo0 ky op0 nt0 wr0 (nI ee) wt), bI g (ad 10) 96 tf] := hw
                                exact s_vret cf hr hlk () (by rw [lx_dig hsk hne hL hD hE, if_pos hadj]; exact hw) trivial (Nat.le_of_ble_eq_true rfl) (Nat.le_of_ble_eq_true rfl) dX7_next_383 hQ
                      · have hbig : 4 < ee - k := by rcases Nat.lt_or_ge 4 (ee - k) with z | z; exact z; exact absurd (nI_le (b := 4) z (by omega)) c289
                        refine lv_ldc2 hx hb hown (hts _ q1280) dX7_next_292 ?_
                        refine lv_goto (tgt := 302) hx hb dX7_next_295 (by decide) ?_
                        refine lv_toplr (y := v10 tf k (ee - k)) (v10_big hbig) ?_
                        refine s_put (v := .long (v10 tf k (ee - k))) fb7 cf hw 0 rfl 15 rfl q936 rfl rfl rfl rfl dX7_next_302 (fun H locs hw => ?_)
                        have hw : WD g A s H locs [bO a 7 (mF ad ik (nI tp) (nI ee) (nI k) 2 (v10 tf k (ee - k)) cd0 wo0 ky op0 nt0 wr0 (nI bw) wt), bI g (ad 10) 96 tf] := hw
                        refine lv_goto (tgt := 337) hx hb dX7_next_305 (by decide) ?_
                        refine lv_iload_n hx hb dX7_next_337 rfl (lv_at hl 1 rfl) ?_
                        refine lv_if_ne (tgt := 345) hx hb dX7_next_338 (by decide) (fun c338 => ?_) (fun c338 => ?_)
                        · have c338 := b01_n c338
                          exact (hL c338.2).elim
                        · have c338 := b01_z c338
                          refine lv_iload_n hx hb dX7_next_341 rfl (lv_at hl 2 rfl) ?_
                          refine lv_if_eq (tgt := 383) hx hb dX7_next_342 (by decide) (fun c342 => ?_) (fun c342 => ?_)
                          · have c342 := b01_z c342
                            exact (c342 ⟨hlt, hD⟩).elim
                          · have c342 := b01_n c342
                            refine lv_aload_n hx hb dX7_next_345 rfl (lv_at hl 0 rfl) ?_
                            refine lv_aload_n hx hb dX7_next_346 rfl (lv_at hl 0 rfl) ?_
                            refine s_get (v := .int (nI k)) fb7 cf hw 0 rfl 13 rfl q934 rfl dX7_next_347 ?_
                            refine lv_if_le (tgt := 368) hx hb dX7_next_350 (by decide) (fun c350 => ?_) (fun c350 => ?_)
                            · have hadj : ¬ (0 < k ∧ k = bw) := fun z => absurd c350 (nI_nle z.1 (by omega))
                              refine lv_aload_n hx hb dX7_next_368 rfl (lv_at hl 0 rfl) ?_
                              refine s_get (v := .int 2) fb7 cf hw 0 rfl 14 rfl q935 rfl dX7_next_369 ?_
                              refine s_put (v := .int 2) fb7 cf hw 0 rfl 14 rfl q935 rfl rfl rfl rfl dX7_next_372 (fun H locs hw => ?_)
                              have hw : WD g A s H locs [bO a 7 (mF ad ik (nI tp) (nI ee) (nI k) 2 (v10 tf k (ee - k)) cd0 wo0 ky op0 nt0 wr0 (nI bw) wt), bI g (ad 10) 96 tf] := hw
                              refine lv_aload_n hx hb dX7_next_375 rfl (lv_at hl 0 rfl) ?_
                              refine lv_aload_n hx hb dX7_next_376 rfl (lv_at hl 0 rfl) ?_
                              refine s_get (v := .int (nI ee)) fb7 cf hw 0 rfl 12 rfl q933 rfl dX7_next_377 ?_
                              refine s_put (v := .int (nI ee)) fb7 cf hw 0 rfl 22 rfl q943 rfl rfl rfl rfl dX7_next_380 (fun H locs hw => ?_)
                              have hw : WD g A s H locs [bO a 7 (mF ad ik (nI tp) (nI ee) (nI k) 2 (v10 tf k (ee - k)) cd0 wo0 ky op0 nt0 wr0 (nI ee) wt), bI g (ad 10) 96 tf] := hw
                              exact s_vret cf hr hlk () (by rw [lx_dig hsk hne hL hD hE, if_neg hadj]; exact hw) trivial (Nat.le_of_ble_eq_true rfl) (Nat.le_of_ble_eq_true rfl) dX7_next_383 hQ
                            · refine lv_aload_n hx hb dX7_next_353 rfl (lv_at hl 0 rfl) ?_
                              refine s_get (v := .int (nI k)) fb7 cf hw 0 rfl 13 rfl q934 rfl dX7_next_354 ?_
                              refine lv_aload_n hx hb dX7_next_357 rfl (lv_at hl 0 rfl) ?_
                              refine s_get (v := .int (nI bw)) fb7 cf hw 0 rfl 22 rfl q943 rfl dX7_next_358 ?_
                              refine lv_icmp_ne (tgt := 368) hx hb dX7_next_361 (by decide) (fun c361 => ?_) (fun c361 => ?_)
                              · have hadj : ¬ (0 < k ∧ k = bw) := fun z => c361 (by rw [z.2])
                                refine lv_aload_n hx hb dX7_next_368 rfl (lv_at hl 0 rfl) ?_
                                refine s_get (v := .int 2) fb7 cf hw 0 rfl 14 rfl q935 rfl dX7_next_369 ?_
                                refine s_put (v := .int 2) fb7 cf hw 0 rfl 14 rfl q935 rfl rfl rfl rfl dX7_next_372 (fun H locs hw => ?_)
                                have hw : WD g A s H locs [bO a 7 (mF ad ik (nI tp) (nI ee) (nI k) 2 (v10 tf k (ee - k)) cd0 wo0 ky op0 nt0 wr0 (nI bw) wt), bI g (ad 10) 96 tf] := hw
                                refine lv_aload_n hx hb dX7_next_375 rfl (lv_at hl 0 rfl) ?_
                                refine lv_aload_n hx hb dX7_next_376 rfl (lv_at hl 0 rfl) ?_
                                refine s_get (v := .int (nI ee)) fb7 cf hw 0 rfl 12 rfl q933 rfl dX7_next_377 ?_
                                refine s_put (v := .int (nI ee)) fb7 cf hw 0 rfl 22 rfl q943 rfl rfl rfl rfl dX7_next_380 (fun H locs hw => ?_)
                                have hw : WD g A s H locs [bO a 7 (mF ad ik (nI tp) (nI ee) (nI k) 2 (v10 tf k (ee - k)) cd0 wo0 ky op0 nt0 wr0 (nI ee) wt), bI g (ad 10) 96 tf] := hw
                                exact s_vret cf hr hlk () (by rw [lx_dig hsk hne hL hD hE, if_neg hadj]; exact hw) trivial (Nat.le_of_ble_eq_true rfl) (Nat.le_of_ble_eq_true rfl) dX7_next_383 hQ
                              · have hadj : 0 < k ∧ k = bw := ⟨by rcases Nat.eq_zero_or_pos k with q | q; exact absurd (by rw [q]; decide) c350; exact q, (nI_eq (by omega) (by omega)).mp c361⟩
                                refine lv_iconst (v := 4) hx hb dX7_next_364 (by decide) ?_
                                refine lv_goto (tgt := 372) hx hb dX7_next_365 (by decide) ?_
                                refine s_put (v := .int 4) fb7 cf hw 0 rfl 14 rfl q935 rfl rfl rfl rfl dX7_next_372 (fun H locs hw => ?_)
                                have hw : WD g A s H locs [bO a 7 (mF ad ik (nI tp) (nI ee) (nI k) 4 (v10 tf k (ee - k)) cd0 wo0 ky op0 nt0 wr0 (nI bw) wt), bI g (ad 10) 96 tf] := hw
                                refine lv_aload_n hx hb dX7_next_375 rfl (lv_at hl 0 rfl) ?_
                                refine lv_aload_n hx hb dX7_next_376 rfl (lv_at hl 0 rfl) ?_
                                refine s_get (v := .int (nI ee)) fb7 cf hw 0 rfl 12 rfl q933 rfl dX7_next_377 ?_
                                refine s_put (v := .int (nI ee)) fb7 cf hw 0 rfl 22 rfl q943 rfl rfl rfl rfl dX7_next_380 (fun H locs hw => ?_)
                                have hw : WD g A s H locs [bO a 7 (mF ad ik (nI tp) (nI ee) (nI k) 4 (v10 tf k (ee - k)) cd0 wo0 ky op0 nt0 wr0 (nI ee) wt), bI g (ad 10) 96 tf] := hw
                                exact s_vret cf hr hlk () (by rw [lx_dig hsk hne hL hD hE, if_pos hadj]; exact hw) trivial (Nat.le_of_ble_eq_true rfl) (Nat.le_of_ble_eq_true rfl) dX7_next_383 hQ
                    · have c216 := b01_n c216
                      have hel := c216
                      refine lv_aload_n hx hb dX7_next_219 rfl (lv_at hl 0 rfl) ?_
                      refine lv_aload_n hx hb dX7_next_220 rfl (lv_at hl 0 rfl) ?_
                      refine s_get (v := .int (nI ee)) fb7 cf hw 0 rfl 12 rfl q933 rfl dX7_next_221 ?_
                      refine lv_aload_n hx hb dX7_next_224 rfl (lv_at hl 0 rfl) ?_
                      refine s_get (v := .int (nI k)) fb7 cf hw 0 rfl 13 rfl q934 rfl dX7_next_225 ?_
                      refine lv_isub hx hb dX7_next_228 ?_
                      refine lv_topr (y := nI (ee - k)) (pk_sub hke) ?_
                      refine lv_iconst (v := 4) hx hb dX7_next_229 (by decide) ?_
                      refine lv_icmp_ge (tgt := 259) hx hb dX7_next_230 (by decide) (fun c230 => ?_) (fun c230 => ?_)
                      · have hbig : 4 < ee + 1 - k := by have := nI_le_of (n := 4) (by omega) c230 (by omega); omega
                        refine lv_ldc2 hx hb hown (hts _ q1280) dX7_next_259 ?_
                        refine lv_toplr (y := v10 tf k (ee + 1 - k)) (v10_big hbig) ?_
                        refine s_put (v := .long (v10 tf k (ee + 1 - k))) fb7 cf hw 0 rfl 15 rfl q936 rfl rfl rfl rfl dX7_next_262 (fun H locs hw => ?_)
                        have hw : WD g A s H locs [bO a 7 (mF ad ik (nI tp) (nI ee) (nI k) 2 (v10 tf k (ee + 1 - k)) cd0 wo0 ky op0 nt0 wr0 (nI bw) wt), bI g (ad 10) 96 tf] := hw
                        refine lv_aload_n hx hb dX7_next_265 rfl (lv_at hl 0 rfl) ?_
                        refine lv_dup hx hb dX7_next_266 rfl ?_
                        refine s_get (v := .int (nI ee)) fb7 cf hw 0 rfl 12 rfl q933 rfl dX7_next_267 ?_
                        refine lv_iconst (v := 1) hx hb dX7_next_270 (by decide) ?_
                        refine lv_iadd hx hb dX7_next_271 ?_
                        refine lv_topr (y := nI (ee + 1)) (nI_1 ee) ?_
                        refine s_put (v := .int (nI (ee + 1))) fb7 cf hw 0 rfl 12 rfl q933 rfl rfl rfl rfl dX7_next_272 (fun H locs hw => ?_)
                        have hw : WD g A s H locs [bO a 7 (mF ad ik (nI tp) (nI (ee + 1)) (nI k) 2 (v10 tf k (ee + 1 - k)) cd0 wo0 ky op0 nt0 wr0 (nI bw) wt), bI g (ad 10) 96 tf] := hw
                        refine lv_goto (tgt := 208) hx hb dX7_next_275 (by decide) ?_
                        exact ih208 (ee + 1) (by omega) (by omega) (by omega) (hee.trans (lst_step hel.1 (fun z => z hel.2))) _ _ _ hw (lv_sub hl [0, 1, 2] rfl)
                      · have hsm : ee - k < 4 := nI_lt_of (n := 4) (by omega) c230 (by omega)
                        refine lv_ldc2 hx hb hown (hts _ q1142) dX7_next_233 ?_
                        refine lv_aload_n hx hb dX7_next_236 rfl (lv_at hl 0 rfl) ?_
                        refine s_get (v := .long (v10 tf k (ee - k))) fb7 cf hw 0 rfl 15 rfl q936 rfl dX7_next_237 ?_
                        refine lv_lmul hx hb dX7_next_240 ?_
                        refine lv_aload_n hx hb dX7_next_241 rfl (lv_at hl 0 rfl) ?_
                        refine s_get (v := .ref (ad 10)) fb7 cf hw 0 rfl 10 rfl q931 rfl dX7_next_242 ?_
                        refine lv_aload_n hx hb dX7_next_245 rfl (lv_at hl 0 rfl) ?_
                        refine s_get (v := .int (nI ee)) fb7 cf hw 0 rfl 12 rfl q933 rfl dX7_next_246 ?_
                        refine s_iald (j := ee) cf hw 1 rfl (rfl) (by omega) rfl dX7_next_249 ?_
                        refine lv_i2l (v := (tf ee : Int32).toInt64) hx hb dX7_next_250 rfl ?_
                        refine lv_ladd hx hb dX7_next_251 ?_
                        refine lv_ldc2 hx hb hown (hts _ q1279) dX7_next_252 ?_
                        refine lv_lsub hx hb dX7_next_255 ?_
                        refine lv_goto (tgt := 262) hx hb dX7_next_256 (by decide) ?_
                        refine lv_toplr (y := v10 tf k (ee + 1 - k)) (by have q := v10_s (b := k) hsm (by rw [show k + (ee - k) = ee by omega]; exact hel.2); rw [show k + (ee - k) = ee by omega, show ee - k + 1 = ee + 1 - k by omega] at q; exact q) ?_
                        refine s_put (v := .long (v10 tf k (ee + 1 - k))) fb7 cf hw 0 rfl 15 rfl q936 rfl rfl rfl rfl dX7_next_262 (fun H locs hw => ?_)
                        have hw : WD g A s H locs [bO a 7 (mF ad ik (nI tp) (nI ee) (nI k) 2 (v10 tf k (ee + 1 - k)) cd0 wo0 ky op0 nt0 wr0 (nI bw) wt), bI g (ad 10) 96 tf] := hw
                        refine lv_aload_n hx hb dX7_next_265 rfl (lv_at hl 0 rfl) ?_
                        refine lv_dup hx hb dX7_next_266 rfl ?_
                        refine s_get (v := .int (nI ee)) fb7 cf hw 0 rfl 12 rfl q933 rfl dX7_next_267 ?_
                        refine lv_iconst (v := 1) hx hb dX7_next_270 (by decide) ?_
                        refine lv_iadd hx hb dX7_next_271 ?_
                        refine lv_topr (y := nI (ee + 1)) (nI_1 ee) ?_
                        refine s_put (v := .int (nI (ee + 1))) fb7 cf hw 0 rfl 12 rfl q933 rfl rfl rfl rfl dX7_next_272 (fun H locs hw => ?_)
                        have hw : WD g A s H locs [bO a 7 (mF ad ik (nI tp) (nI (ee + 1)) (nI k) 2 (v10 tf k (ee + 1 - k)) cd0 wo0 ky op0 nt0 wr0 (nI bw) wt), bI g (ad 10) 96 tf] := hw
                        refine lv_goto (tgt := 208) hx hb dX7_next_275 (by decide) ?_
                        exact ih208 (ee + 1) (by omega) (by omega) (by omega) (hee.trans (lst_step hel.1 (fun z => z hel.2))) _ _ _ hw (lv_sub hl [0, 1, 2] rfl)
                have hw : WD g A s H locs [bO a 7 (mF ad ik (nI tp) (nI k) (nI k) 2 (v10 tf k (k - k)) cd0 wo0 ky op0 nt0 wr0 (nI bw) wt), bI g (ad 10) 96 tf] := by rw [show v10 tf k (k - k) = 0 by rw [Nat.sub_self]; rfl]; exact hw
                exact L208 (tp + 1) k (by omega) (by omega) (by omega) rfl _ _ _ hw (lv_sub hl [2, 1, 0] rfl)
            · have c87 := b01_n c87
              have hL : isLt (tf k) := c87.2
              refine lv_aload_n hx hb dX7_next_90 rfl (lv_at hl 2 rfl) ?_
              refine lv_iconst (v := 1) hx hb dX7_next_91 (by decide) ?_
              refine s_put (v := .int 1) fb7 cf hw 0 rfl 14 rfl q935 rfl rfl rfl rfl dX7_next_92 (fun H locs hw => ?_)
              have hw : WD g A s H locs [bO a 7 (mF ad ik (nI tp) (nI k) (nI k) 1 0 cd0 wo0 ky op0 nt0 wr0 (nI bw) wt), bI g (ad 10) 96 tf] := hw
              have L95 : ∀ (fu : Nat) (ee : Nat), (k ≤ ee) → (ee ≤ tp) → (tp < ee + fu) → (endL tf tp k = lst (fun j => ¬ isLt (tf j)) (tp - ee) ee) → ∀ (H : Heap) (locs : List Loc) (ls : Array Slot), WD g A s H locs [bO a 7 (mF ad ik (nI tp) (nI ee) (nI k) 1 (v27 tf k (ee - k)) cd0 wo0 ky op0 nt0 wr0 (nI bw) wt), bI g (ad 10) 96 tf] → lv_has ls 3 [(0, .ref a), (1, .int (if k < tp ∧ (97 ≤ tf k ∧ tf k ≤ 122) then 1 else 0)), (2, .int (if k < tp ∧ (48 ≤ tf k ∧ tf k ≤ 57) then 1 else 0))] → W p l e (rmx 2 0 0) s m args below meth c H locs 0 0 Qf (F0 m 95 ls []) := by
                intro fu
                induction fu with
                | zero => intro ee hke hep hfe hee; exfalso; omega
                | succ fu ih95 =>
                  intro ee hke hep hfe hee H locs ls hw hl
                  refine lv_aload_n hx hb dX7_next_95 rfl (lv_at hl 0 rfl) ?_
                  refine lv_bipush (v := 97) hx hb dX7_next_96 (by decide) ?_
                  refine lv_bipush (v := 122) hx hb dX7_next_98 (by decide) ?_
                  refine s_calli (runV cf (m_isRow (ik := ik) (ky := ky) (wt := wt) (bg0 := nI k) (tk0 := 1) (va0 := v27 tf k (ee - k)) (cd0 := cd0) (wo0 := wo0) (op0 := op0) (nt0 := nt0) (wr0 := wr0) (bw0 := nI bw) (tf := tf) (ee := ee) (tp := tp) (by omega) (by omega) 97 122) hw [0, 1] (by decide) rfl km_X7_isRow ki_X7_isRow q1272 (run_recv (ci := 7) (T := TX7) (N := 39) hw 0 rfl rfl) rfl rfl hl.1 rfl dX7_next_100) hw [0, 1] (by decide) rfl (fun _ => rfl) (fun r_12 u_10 H locs hp_11 hw => ?_)
                  have hw : WD g A s H locs [bO a 7 (mF ad ik (nI tp) (nI ee) (nI k) 1 (v27 tf k (ee - k)) cd0 wo0 ky op0 nt0 wr0 (nI bw) wt), bI g (ad 10) 96 tf] := hw
                  subst hp_11
                  refine lv_if_eq (tgt := 168) hx hb dX7_next_103 (by decide) (fun c103 => ?_) (fun c103 => ?_)
                  · have c103 := b01_z c103
                    have hE : endL tf tp k = ee := by by_cases z : ee < tp; exact hee.trans (lst_stop z (fun y => c103 ⟨z, y⟩)); exact hee.trans (lst_end z)
                    refine lv_aload_n hx hb dX7_next_168 rfl (lv_at hl 0 rfl) ?_
                    refine lv_aload_n hx hb dX7_next_169 rfl (lv_at hl 0 rfl) ?_
                    refine s_get (v := .int (nI ee)) fb7 cf hw 0 rfl 12 rfl q933 rfl dX7_next_170 ?_
                    refine lv_aload_n hx hb dX7_next_173 rfl (lv_at hl 0 rfl) ?_
                    refine s_get (v := .int (nI k)) fb7 cf hw 0 rfl 13 rfl q934 rfl dX7_next_174 ?_
                    refine lv_isub hx hb dX7_next_177 ?_
                    refine lv_topr (y := nI (ee - k)) (pk_sub hke) ?_
                    refine lv_bipush (v := 9) hx hb dX7_next_178 (by decide) ?_
                    refine lv_icmp_le (tgt := 189) hx hb dX7_next_180 (by decide) (fun c180 => ?_) (fun c180 => ?_)
                    · refine lv_aload_n hx hb dX7_next_189 rfl (lv_at hl 0 rfl) ?_
                      refine s_get (v := .long (v27 tf k (ee - k))) fb7 cf hw 0 rfl 15 rfl q936 rfl dX7_next_190 ?_
                      refine s_put (v := .long (v27 tf k (ee - k))) fb7 cf hw 0 rfl 15 rfl q936 rfl rfl rfl rfl dX7_next_193 (fun H locs hw => ?_)
                      have hw : WD g A s H locs [bO a 7 (mF ad ik (nI tp) (nI ee) (nI k) 1 (v27 tf k (ee - k)) cd0 wo0 ky op0 nt0 wr0 (nI bw) wt), bI g (ad 10) 96 tf] := hw
                      refine lv_goto (tgt := 337) hx hb dX7_next_196 (by decide) ?_
                      refine lv_iload_n hx hb dX7_next_337 rfl (lv_at hl 1 rfl) ?_
                      refine lv_if_ne (tgt := 345) hx hb dX7_next_338 (by decide) (fun c338 => ?_) (fun c338 => ?_)
                      · have c338 := b01_n c338
                        refine lv_aload_n hx hb dX7_next_345 rfl (lv_at hl 0 rfl) ?_
                        refine lv_aload_n hx hb dX7_next_346 rfl (lv_at hl 0 rfl) ?_
                        refine s_get (v := .int (nI k)) fb7 cf hw 0 rfl 13 rfl q934 rfl dX7_next_347 ?_
                        refine lv_if_le (tgt := 368) hx hb dX7_next_350 (by decide) (fun c350 => ?_) (fun c350 => ?_)
                        · have hadj : ¬ (0 < k ∧ k = bw) := fun z => absurd c350 (nI_nle z.1 (by omega))
                          refine lv_aload_n hx hb dX7_next_368 rfl (lv_at hl 0 rfl) ?_
                          refine s_get (v := .int 1) fb7 cf hw 0 rfl 14 rfl q935 rfl dX7_next_369 ?_
                          refine s_put (v := .int 1) fb7 cf hw 0 rfl 14 rfl q935 rfl rfl rfl rfl dX7_next_372 (fun H locs hw => ?_)
                          have hw : WD g A s H locs [bO a 7 (mF ad ik (nI tp) (nI ee) (nI k) 1 (v27 tf k (ee - k)) cd0 wo0 ky op0 nt0 wr0 (nI bw) wt), bI g (ad 10) 96 tf] := hw
                          refine lv_aload_n hx hb dX7_next_375 rfl (lv_at hl 0 rfl) ?_
                          refine lv_aload_n hx hb dX7_next_376 rfl (lv_at hl 0 rfl) ?_
                          refine s_get (v := .int (nI ee)) fb7 cf hw 0 rfl 12 rfl q933 rfl dX7_next_377 ?_
                          refine s_put (v := .int (nI ee)) fb7 cf hw 0 rfl 22 rfl q943 rfl rfl rfl rfl dX7_next_380 (fun H locs hw => ?_)
                          have hw : WD g A s H locs [bO a 7 (mF ad ik (nI tp) (nI ee) (nI k) 1 (v27 tf k (ee - k)) cd0 wo0 ky op0 nt0 wr0 (nI ee) wt), bI g (ad 10) 96 tf] := hw
                          exact s_vret cf hr hlk () (by rw [lx_let hsk hne hL hE, if_neg hadj]; exact hw) trivial (Nat.le_of_ble_eq_true rfl) (Nat.le_of_ble_eq_true rfl) dX7_next_383 hQ
                        · refine lv_aload_n hx hb dX7_next_353 rfl (lv_at hl 0 rfl) ?_
                          refine s_get (v := .int (nI k)) fb7 cf hw 0 rfl 13 rfl q934 rfl dX7_next_354 ?_
                          refine lv_aload_n hx hb dX7_next_357 rfl (lv_at hl 0 rfl) ?_
                          refine s_get (v := .int (nI bw)) fb7 cf hw 0 rfl 22 rfl q943 rfl dX7_next_358 ?_
                          refine lv_icmp_ne (tgt := 368) hx hb dX7_next_361 (by decide) (fun c361 => ?_) (fun c361 => ?_)
                          · have hadj : ¬ (0 < k ∧ k = bw) := fun z => c361 (by rw [z.2])
                            refine lv_aload_n hx hb dX7_next_368 rfl (lv_at hl 0 rfl) ?_
                            refine s_get (v := .int 1) fb7 cf hw 0 rfl 14 rfl q935 rfl dX7_next_369 ?_
                            refine s_put (v := .int 1) fb7 cf hw 0 rfl 14 rfl q935 rfl rfl rfl rfl dX7_next_372 (fun H locs hw => ?_)
                            have hw : WD g A s H locs [bO a 7 (mF ad ik (nI tp) (nI ee) (nI k) 1 (v27 tf k (ee - k)) cd0 wo0 ky op0 nt0 wr0 (nI bw) wt), bI g (ad 10) 96 tf] := hw
                            refine lv_aload_n hx hb dX7_next_375 rfl (lv_at hl 0 rfl) ?_
                            refine lv_aload_n hx hb dX7_next_376 rfl (lv_at hl 0 rfl) ?_
                            refine s_get (v := .int (nI ee)) fb7 cf hw 0 rfl 12 rfl q933 rfl dX7_next_377 ?_
                            refine s_put (v := .int (nI ee)) fb7 cf hw 0 rfl 22 rfl q943 rfl rfl rfl rfl dX7_next_380 (fun H locs hw => ?_)
                            have hw : WD g A s H locs [bO a 7 (mF ad ik (nI tp) (nI ee) (nI k) 1 (v27 tf k (ee - k)) cd0 wo0 ky op0 nt0 wr0 (nI ee) wt), bI g (ad 10) 96 tf] := hw
                            exact s_vret cf hr hlk () (by rw [lx_let hsk hne hL hE, if_neg hadj]; exact hw) trivial (Nat.le_of_ble_eq_true rfl) (Nat.le_of_ble_eq_true rfl) dX7_next_383 hQ
                          · have hadj : 0 < k ∧ k = bw := ⟨by rcases Nat.eq_zero_or_pos k with q | q; exact absurd (by rw [q]; decide) c350; exact q, (nI_eq (by omega) (by omega)).mp c361⟩
                            refine lv_iconst (v := 4) hx hb dX7_next_364 (by decide) ?_
                            refine lv_goto (tgt := 372) hx hb dX7_next_365 (by decide) ?_
                            refine s_put (v := .int 4) fb7 cf hw 0 rfl 14 rfl q935 rfl rfl rfl rfl dX7_next_372 (fun H locs hw => ?_)
                            have hw : WD g A s H locs [bO a 7 (mF ad ik (nI tp) (nI ee) (nI k) 4 (v27 tf k (ee - k)) cd0 wo0 ky op0 nt0 wr0 (nI bw) wt), bI g (ad 10) 96 tf] := hw
                            refine lv_aload_n hx hb dX7_next_375 rfl (lv_at hl 0 rfl) ?_
                            refine lv_aload_n hx hb dX7_next_376 rfl (lv_at hl 0 rfl) ?_
                            refine s_get (v := .int (nI ee)) fb7 cf hw 0 rfl 12 rfl q933 rfl dX7_next_377 ?_
                            refine s_put (v := .int (nI ee)) fb7 cf hw 0 rfl 22 rfl q943 rfl rfl rfl rfl dX7_next_380 (fun H locs hw => ?_)
                            have hw : WD g A s H locs [bO a 7 (mF ad ik (nI tp) (nI ee) (nI k) 4 (v27 tf k (ee - k)) cd0 wo0 ky op0 nt0 wr0 (nI ee) wt), bI g (ad 10) 96 tf] := hw
                            exact s_vret cf hr hlk () (by rw [lx_let hsk hne hL hE, if_pos hadj]; exact hw) trivial (Nat.le_of_ble_eq_true rfl) (Nat.le_of_ble_eq_true rfl) dX7_next_383 hQ
                      · have c338 := b01_z c338
                        exact (c338 ⟨hlt, hL⟩).elim
                    · have hbig : 9 < ee - k := by rcases Nat.lt_or_ge 9 (ee - k) with z | z; exact z; exact absurd (nI_le (b := 9) z (by omega)) c180
                      refine lv_ldc2 hx hb hown (hts _ q1278) dX7_next_183 ?_
                      refine lv_goto (tgt := 193) hx hb dX7_next_186 (by decide) ?_
                      refine lv_toplr (y := v27 tf k (ee - k)) (v27_big hbig) ?_
                      refine s_put (v := .long (v27 tf k (ee - k))) fb7 cf hw 0 rfl 15 rfl q936 rfl rfl rfl rfl dX7_next_193 (fun H locs hw => ?_)
                      have hw : WD g A s H locs [bO a 7 (mF ad ik (nI tp) (nI ee) (nI k) 1 (v27 tf k (ee - k)) cd0 wo0 ky op0 nt0 wr0 (nI bw) wt), bI g (ad 10) 96 tf] := hw
                      refine lv_goto (tgt := 337) hx hb dX7_next_196 (by decide) ?_
                      refine lv_iload_n hx hb dX7_next_337 rfl (lv_at hl 1 rfl) ?_
                      refine lv_if_ne (tgt := 345) hx hb dX7_next_338 (by decide) (fun c338 => ?_) (fun c338 => ?_)
                      · have c338 := b01_n c338
                        refine lv_aload_n hx hb dX7_next_345 rfl (lv_at hl 0 rfl) ?_
                        refine lv_aload_n hx hb dX7_next_346 rfl (lv_at hl 0 rfl) ?_
                        refine s_get (v := .int (nI k)) fb7 cf hw 0 rfl 13 rfl q934 rfl dX7_next_347 ?_
                        refine lv_if_le (tgt := 368) hx hb dX7_next_350 (by decide) (fun c350 => ?_) (fun c350 => ?_)
                        · have hadj : ¬ (0 < k ∧ k = bw) := fun z => absurd c350 (nI_nle z.1 (by omega))
                          refine lv_aload_n hx hb dX7_next_368 rfl (lv_at hl 0 rfl) ?_
                          refine s_get (v := .int 1) fb7 cf hw 0 rfl 14 rfl q935 rfl dX7_next_369 ?_
                          refine s_put (v := .int 1) fb7 cf hw 0 rfl 14 rfl q935 rfl rfl rfl rfl dX7_next_372 (fun H locs hw => ?_)
                          have hw : WD g A s H locs [bO a 7 (mF ad ik (nI tp) (nI ee) (nI k) 1 (v27 tf k (ee - k)) cd0 wo0 ky op0 nt0 wr0 (nI bw) wt), bI g (ad 10) 96 tf] := hw
                          refine lv_aload_n hx hb dX7_next_375 rfl (lv_at hl 0 rfl) ?_
                          refine lv_aload_n hx hb dX7_next_376 rfl (lv_at hl 0 rfl) ?_
                          refine s_get (v := .int (nI ee)) fb7 cf hw 0 rfl 12 rfl q933 rfl dX7_next_377 ?_
                          refine s_put (v := .int (nI ee)) fb7 cf hw 0 rfl 22 rfl q943 rfl rfl rfl rfl dX7_next_380 (fun H locs hw => ?_)
                          have hw : WD g A s H locs [bO a 7 (mF ad ik (nI tp) (nI ee) (nI k) 1 (v27 tf k (ee - k)) cd0 wo0 ky op0 nt0 wr0 (nI ee) wt), bI g (ad 10) 96 tf] := hw
                          exact s_vret cf hr hlk () (by rw [lx_let hsk hne hL hE, if_neg hadj]; exact hw) trivial (Nat.le_of_ble_eq_true rfl) (Nat.le_of_ble_eq_true rfl) dX7_next_383 hQ
                        · refine lv_aload_n hx hb dX7_next_353 rfl (lv_at hl 0 rfl) ?_
                          refine s_get (v := .int (nI k)) fb7 cf hw 0 rfl 13 rfl q934 rfl dX7_next_354 ?_
                          refine lv_aload_n hx hb dX7_next_357 rfl (lv_at hl 0 rfl) ?_
                          refine s_get (v := .int (nI bw)) fb7 cf hw 0 rfl 22 rfl q943 rfl dX7_next_358 ?_
                          refine lv_icmp_ne (tgt := 368) hx hb dX7_next_361 (by decide) (fun c361 => ?_) (fun c361 => ?_)
                          · have hadj : ¬ (0 < k ∧ k = bw) := fun z => c361 (by rw [z.2])
                            refine lv_aload_n hx hb dX7_next_368 rfl (lv_at hl 0 rfl) ?_
                            refine s_get (v := .int 1) fb7 cf hw 0 rfl 14 rfl q935 rfl dX7_next_369 ?_
                            refine s_put (v := .int 1) fb7 cf hw 0 rfl 14 rfl q935 rfl rfl rfl rfl dX7_next_372 (fun H locs hw => ?_)
                            have hw : WD g A s H locs [bO a 7 (mF ad ik (nI tp) (nI ee) (nI k) 1 (v27 tf k (ee - k)) cd0 wo0 ky op0 nt0 wr0 (nI bw) wt), bI g (ad 10) 96 tf] := hw
                            refine lv_aload_n hx hb dX7_next_375 rfl (lv_at hl 0 rfl) ?_
                            refine lv_aload_n hx hb dX7_next_376 rfl (lv_at hl 0 rfl) ?_
                            refine s_get (v := .int (nI ee)) fb7 cf hw 0 rfl 12 rfl q933 rfl dX7_next_377 ?_
                            refine s_put (v := .int (nI ee)) fb7 cf hw 0 rfl 22 rfl q943 rfl rfl rfl rfl dX7_next_380 (fun H locs hw => ?_)
                            have hw : WD g A s H locs [bO a 7 (mF ad ik (nI tp) (nI ee) (nI k) 1 (v27 tf k (ee - k)) cd0 wo0 ky op0 nt0 wr0 (nI ee) wt), bI g (ad 10) 96 tf] := hw
                            exact s_vret cf hr hlk () (by rw [lx_let hsk hne hL hE, if_neg hadj]; exact hw) trivial (Nat.le_of_ble_eq_true rfl) (Nat.le_of_ble_eq_true rfl) dX7_next_383 hQ
                          · have hadj : 0 < k ∧ k = bw := ⟨by rcases Nat.eq_zero_or_pos k with q | q; exact absurd (by rw [q]; decide) c350; exact q, (nI_eq (by omega) (by omega)).mp c361⟩
                            refine lv_iconst (v := 4) hx hb dX7_next_364 (by decide) ?_
                            refine lv_goto (tgt := 372) hx hb dX7_next_365 (by decide) ?_
                            refine s_put (v := .int 4) fb7 cf hw 0 rfl 14 rfl q935 rfl rfl rfl rfl dX7_next_372 (fun H locs hw => ?_)
                            have hw : WD g A s H locs [bO a 7 (mF ad ik (nI tp) (nI ee) (nI k) 4 (v27 tf k (ee - k)) cd0 wo0 ky op0 nt0 wr0 (nI bw) wt), bI g (ad 10) 96 tf] := hw
                            refine lv_aload_n hx hb dX7_next_375 rfl (lv_at hl 0 rfl) ?_
                            refine lv_aload_n hx hb dX7_next_376 rfl (lv_at hl 0 rfl) ?_
                            refine s_get (v := .int (nI ee)) fb7 cf hw 0 rfl 12 rfl q933 rfl dX7_next_377 ?_
                            refine s_put (v := .int (nI ee)) fb7 cf hw 0 rfl 22 rfl q943 rfl rfl rfl rfl dX7_next_380 (fun H locs hw => ?_)
                            have hw : WD g A s H locs [bO a 7 (mF ad ik (nI tp) (nI ee) (nI k) 4 (v27 tf k (ee - k)) cd0 wo0 ky op0 nt0 wr0 (nI ee) wt), bI g (ad 10) 96 tf] := hw
                            exact s_vret cf hr hlk () (by rw [lx_let hsk hne hL hE, if_pos hadj]; exact hw) trivial (Nat.le_of_ble_eq_true rfl) (Nat.le_of_ble_eq_true rfl) dX7_next_383 hQ
                      · have c338 := b01_z c338
                        exact (c338 ⟨hlt, hL⟩).elim
                  · have c103 := b01_n c103
                    have hel := c103
                    refine lv_aload_n hx hb dX7_next_106 rfl (lv_at hl 0 rfl) ?_
                    refine lv_aload_n hx hb dX7_next_107 rfl (lv_at hl 0 rfl) ?_
                    refine s_get (v := .int (nI ee)) fb7 cf hw 0 rfl 12 rfl q933 rfl dX7_next_108 ?_
                    refine lv_aload_n hx hb dX7_next_111 rfl (lv_at hl 0 rfl) ?_
                    refine s_get (v := .int (nI k)) fb7 cf hw 0 rfl 13 rfl q934 rfl dX7_next_112 ?_
                    refine lv_isub hx hb dX7_next_115 ?_
                    refine lv_topr (y := nI (ee - k)) (pk_sub hke) ?_
                    refine lv_bipush (v := 9) hx hb dX7_next_116 (by decide) ?_
                    refine lv_icmp_ge (tgt := 149) hx hb dX7_next_118 (by decide) (fun c118 => ?_) (fun c118 => ?_)
                    · have hbig : 9 < ee + 1 - k := by have := nI_le_of (n := 9) (by omega) c118 (by omega); omega
                      refine lv_ldc2 hx hb hown (hts _ q1278) dX7_next_149 ?_
                      refine lv_toplr (y := v27 tf k (ee + 1 - k)) (v27_big hbig) ?_
                      refine s_put (v := .long (v27 tf k (ee + 1 - k))) fb7 cf hw 0 rfl 15 rfl q936 rfl rfl rfl rfl dX7_next_152 (fun H locs hw => ?_)
                      have hw : WD g A s H locs [bO a 7 (mF ad ik (nI tp) (nI ee) (nI k) 1 (v27 tf k (ee + 1 - k)) cd0 wo0 ky op0 nt0 wr0 (nI bw) wt), bI g (ad 10) 96 tf] := hw
                      refine lv_aload_n hx hb dX7_next_155 rfl (lv_at hl 0 rfl) ?_
                      refine lv_dup hx hb dX7_next_156 rfl ?_
                      refine s_get (v := .int (nI ee)) fb7 cf hw 0 rfl 12 rfl q933 rfl dX7_next_157 ?_
                      refine lv_iconst (v := 1) hx hb dX7_next_160 (by decide) ?_
                      refine lv_iadd hx hb dX7_next_161 ?_
                      refine lv_topr (y := nI (ee + 1)) (nI_1 ee) ?_
                      refine s_put (v := .int (nI (ee + 1))) fb7 cf hw 0 rfl 12 rfl q933 rfl rfl rfl rfl dX7_next_162 (fun H locs hw => ?_)
                      have hw : WD g A s H locs [bO a 7 (mF ad ik (nI tp) (nI (ee + 1)) (nI k) 1 (v27 tf k (ee + 1 - k)) cd0 wo0 ky op0 nt0 wr0 (nI bw) wt), bI g (ad 10) 96 tf] := hw
                      refine lv_goto (tgt := 95) hx hb dX7_next_165 (by decide) ?_
                      exact ih95 (ee + 1) (by omega) (by omega) (by omega) (hee.trans (lst_step hel.1 (fun z => z hel.2))) _ _ _ hw (lv_sub hl [0, 1, 2] rfl)
                    · have hsm : ee - k < 9 := nI_lt_of (n := 9) (by omega) c118 (by omega)
                      refine lv_ldc2 hx hb hown (hts _ q1276) dX7_next_121 ?_
                      refine lv_aload_n hx hb dX7_next_124 rfl (lv_at hl 0 rfl) ?_
                      refine s_get (v := .long (v27 tf k (ee - k))) fb7 cf hw 0 rfl 15 rfl q936 rfl dX7_next_125 ?_
                      refine lv_lmul hx hb dX7_next_128 ?_
                      refine lv_aload_n hx hb dX7_next_129 rfl (lv_at hl 0 rfl) ?_
                      refine s_get (v := .ref (ad 10)) fb7 cf hw 0 rfl 10 rfl q931 rfl dX7_next_130 ?_
                      refine lv_aload_n hx hb dX7_next_133 rfl (lv_at hl 0 rfl) ?_
                      refine s_get (v := .int (nI ee)) fb7 cf hw 0 rfl 12 rfl q933 rfl dX7_next_134 ?_
                      refine s_iald (j := ee) cf hw 1 rfl (rfl) (by omega) rfl dX7_next_137 ?_
                      refine lv_i2l (v := (tf ee : Int32).toInt64) hx hb dX7_next_138 rfl ?_
                      refine lv_ladd hx hb dX7_next_139 ?_
                      refine lv_ldc2 hx hb hown (hts _ q1277) dX7_next_140 ?_
                      refine lv_lsub hx hb dX7_next_143 ?_
                      refine lv_lconst (v := 1) hx hb dX7_next_144 rfl ?_
                      refine lv_ladd hx hb dX7_next_145 ?_
                      refine lv_goto (tgt := 152) hx hb dX7_next_146 (by decide) ?_
                      refine lv_toplr (y := v27 tf k (ee + 1 - k)) (by have q := v27_s (b := k) hsm (by rw [show k + (ee - k) = ee by omega]; exact hel.2); rw [show k + (ee - k) = ee by omega, show ee - k + 1 = ee + 1 - k by omega] at q; exact q) ?_
                      refine s_put (v := .long (v27 tf k (ee + 1 - k))) fb7 cf hw 0 rfl 15 rfl q936 rfl rfl rfl rfl dX7_next_152 (fun H locs hw => ?_)
                      have hw : WD g A s H locs [bO a 7 (mF ad ik (nI tp) (nI ee) (nI k) 1 (v27 tf k (ee + 1 - k)) cd0 wo0 ky op0 nt0 wr0 (nI bw) wt), bI g (ad 10) 96 tf] := hw
                      refine lv_aload_n hx hb dX7_next_155 rfl (lv_at hl 0 rfl) ?_
                      refine lv_dup hx hb dX7_next_156 rfl ?_
                      refine s_get (v := .int (nI ee)) fb7 cf hw 0 rfl 12 rfl q933 rfl dX7_next_157 ?_
                      refine lv_iconst (v := 1) hx hb dX7_next_160 (by decide) ?_
                      refine lv_iadd hx hb dX7_next_161 ?_
                      refine lv_topr (y := nI (ee + 1)) (nI_1 ee) ?_
                      refine s_put (v := .int (nI (ee + 1))) fb7 cf hw 0 rfl 12 rfl q933 rfl rfl rfl rfl dX7_next_162 (fun H locs hw => ?_)
                      have hw : WD g A s H locs [bO a 7 (mF ad ik (nI tp) (nI (ee + 1)) (nI k) 1 (v27 tf k (ee + 1 - k)) cd0 wo0 ky op0 nt0 wr0 (nI bw) wt), bI g (ad 10) 96 tf] := hw
                      refine lv_goto (tgt := 95) hx hb dX7_next_165 (by decide) ?_
                      exact ih95 (ee + 1) (by omega) (by omega) (by omega) (hee.trans (lst_step hel.1 (fun z => z hel.2))) _ _ _ hw (lv_sub hl [0, 1, 2] rfl)
              have hw : WD g A s H locs [bO a 7 (mF ad ik (nI tp) (nI k) (nI k) 1 (v27 tf k (k - k)) cd0 wo0 ky op0 nt0 wr0 (nI bw) wt), bI g (ad 10) 96 tf] := by rw [show v27 tf k (k - k) = 0 by rw [Nat.sub_self]; rfl]; exact hw
              exact L95 (tp + 1) k (by omega) (by omega) (by omega) rfl _ _ _ hw (lv_sub hl [2, 1, 0] rfl)
          · exact absurd ((nI_eq (by omega) (by omega)).mp c59) (by omega)
        · refine lv_aload_n hx hb dX7_next_25 rfl (lv_at hl 0 rfl) ?_
          refine lv_dup hx hb dX7_next_26 rfl ?_
          refine s_get (v := .int (nI k)) fb7 cf hw 0 rfl 12 rfl q933 rfl dX7_next_27 ?_
          refine lv_iconst (v := 1) hx hb dX7_next_30 (by decide) ?_
          refine lv_iadd hx hb dX7_next_31 ?_
          refine lv_topr (y := nI (k + 1)) (nI_1 k) ?_
          refine s_put (v := .int (nI (k + 1))) fb7 cf hw 0 rfl 12 rfl q933 rfl rfl rfl rfl dX7_next_32 (fun H locs hw => ?_)
          have hw : WD g A s H locs [bO a 7 (mF ad ik (nI tp) (nI (k + 1)) bg0 tk0 va0 cd0 wo0 ky op0 nt0 wr0 (nI bw) wt), bI g (ad 10) 96 tf] := hw
          refine lv_goto (tgt := 0) hx hb dX7_next_35 (by decide) ?_
          exact ih0 (k + 1) (by omega) (by omega) (hls.trans (lst_step hlt (fun z => z c22))) _ _ _ hw (lv_sub hl [0] rfl)
  exact L0 (tp + 1) at_ (by omega) (by omega) rfl _ _ _ hw (lv_sub hl [0] rfl)
