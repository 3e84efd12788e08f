set_option maxRecDepth 100000 in
set_option maxHeartbeats 4000000 in
theorem m_check {l : Launch} {g : GG} {a : Nat} {ad : Nat → Nat} {fs : List Value} (hf : MF ad fs) {d kd ov cdf kf sf pl ws : DD} {ft : TXC} (hT : TxOK kd kf sf cdf 0 ft) {n : Nat} (hn : kd 0 = nI n) (hn10 : n ≤ 10) {ni : Nat} (hni : kd 1 = nI ni) (hni9 : ni ≤ 9999) {ik : Int32} (hik : fs[4]? = some (.int ik)) {wt : Nat} (hwt : fs[38]? = some (.int (nI wt))) (hwt60 : wt ≤ 60) (x : Int32) : Ct l g yX7_check cX7_check 7 (Option.some Jvm.ClassFile.FieldType.int) 6 0 0 [.ref a, .int x] [bO a 7 fs, bI g (ad 0) 60 d, bI g (ad 1) 60 kd, bI g (ad 3) 60 ov, bI g (ad 5) 1344 cdf, bI g (ad 6) 14 kf, bI g (ad 7) 14 sf, bI g (ad 9) 96 pl, bI g (ad 37) 60 ws] (QI g (fun r (_ : DD × DD) => r = R_check ft kd ws ik wt x) (fun u => [bO a 7 (fs.set 38 (.int 0)), bI g (ad 0) 60 d, bI g (ad 1) 60 kd, bI g (ad 3) 60 u.1, bI g (ad 5) 1344 cdf, bI g (ad 6) 14 kf, bI g (ad 7) 14 sf, bI g (ad 9) 96 u.2, bI g (ad 37) 60 ws])) := by
  refine Ct.of (by decide) rfl ?_
  intro p e s m args below meth c A H locs ls Qf cf hr hlk hnm hQ hw hl
  have hx := cf.1
  have hb := cf.2.1
  have hml := cf.2.2.1
  have hown := cf.2.2.2.1
  have hts := cf.2.2.2.2
  have hw : WD g A s H locs [bO a 7 fs, bI g (ad 0) 60 d, bI g (ad 1) 60 kd, bI g (ad 3) 60 ov, bI g (ad 5) 1344 cdf, bI g (ad 6) 14 kf, bI g (ad 7) 14 sf, bI g (ad 9) 96 pl, bI g (ad 37) 60 ws] := hw
  have hl : lv_has ls 7 [(0, .ref a), (1, .int x)] := hl
  refine lv_aload_n hx hb dX7_check_0 rfl (lv_at hl 0 rfl) ?_
  refine s_get (v := .int (nI wt)) fb7 cf hw 0 rfl 38 rfl q959 hwt dX7_check_1 ?_
  refine lv_istore_n (lv' := [(2, .int (nI wt)), (0, .ref a), (1, .int x)]) hx hb dX7_check_4 rfl hl (by decide) rfl (fun ls hl => ?_)
  refine lv_aload_n hx hb dX7_check_5 rfl (lv_at hl 1 rfl) ?_
  refine lv_iconst (v := 0) hx hb dX7_check_6 (by decide) ?_
  refine s_put (v := .int 0) fb7 cf hw 0 rfl 38 rfl q959 rfl rfl rfl (by first | exact hf.len 38 (by decide) | (simp only [List.length_set]; exact hf.len 38 (by decide))) dX7_check_7 (fun H locs hw => ?_)
  have hw : WD g A s H locs [bO a 7 (fs.set 38 (.int 0)), bI g (ad 0) 60 d, bI g (ad 1) 60 kd, bI g (ad 3) 60 ov, bI g (ad 5) 1344 cdf, bI g (ad 6) 14 kf, bI g (ad 7) 14 sf, bI g (ad 9) 96 pl, bI g (ad 37) 60 ws] := hw
  have hf2 : MF ad (fs.set 38 (.int 0)) := hf.set rfl
  have hw : WD g A s H locs [bO a 7 (fs.set 38 (.int 0)), bI g (ad 0) 60 d, bI g (ad 1) 60 kd, bI g (ad 3) 60 ov, bI g (ad 5) 1344 cdf, bI g (ad 6) 14 kf, bI g (ad 7) 14 sf, bI g (ad 9) 96 pl, bI g (ad 37) 60 ws] := hw
  refine lv_iload_n hx hb dX7_check_10 rfl (lv_at hl 2 rfl) ?_
  refine lv_i2l (v := (x : Int32).toInt64) hx hb dX7_check_11 rfl ?_
  refine lv_lconst (v := (1 : Int32).toInt64) hx hb dX7_check_12 (by decide) ?_
  refine lv_ldc2 hx hb hown (hts _ q1381) dX7_check_13 ?_
  refine lv_toplr (y := (30 : Int32).toInt64) (by decide) ?_
  refine s_calli (runS cf (m_in (x : Int32) (1 : Int32) (30 : Int32)) hw [] (by decide) rfl km_X7_in ks_X7_in q1045 rfl rfl hl.1 rfl dX7_check_16) hw [] (by decide) rfl (fun _ => rfl) (fun r_3 u_1 H locs hp_2 hw => ?_)
  have hw : WD g A s H locs [bO a 7 (fs.set 38 (.int 0)), bI g (ad 0) 60 d, bI g (ad 1) 60 kd, bI g (ad 3) 60 ov, bI g (ad 5) 1344 cdf, bI g (ad 6) 14 kf, bI g (ad 7) 14 sf, bI g (ad 9) 96 pl, bI g (ad 37) 60 ws] := hw
  subst hp_2
  refine lv_if_ne (tgt := 25) hx hb dX7_check_19 (by decide) (fun c19 => ?_) (fun c19 => ?_)
  · have c19 := b01_n c19
    refine lv_aload_n hx hb dX7_check_25 rfl (lv_at hl 1 rfl) ?_
    refine s_get (v := .int ik) fb7 cf hw 0 rfl 4 rfl q925 (by rw [List.getElem?_set_ne (by decide)]; exact hik) dX7_check_26 ?_
    refine lv_if_ne (tgt := 36) hx hb dX7_check_29 (by decide) (fun c29 => ?_) (fun c29 => ?_)
    · obtain ⟨xx, hxx, hxe⟩ := rng_nat (m := 30) (by omega) (by grind) c19.2
      subst hxe
      obtain ⟨hk1, hk2, hk3⟩ := nightN_nat hni hni9 c19.1 (by have := c19.2; grind)
      obtain ⟨m_, hmE⟩ : ∃ m_, nightN kd (nI xx) = m_ := ⟨_, rfl⟩
      have hm30 : m_ ≤ 30 := by rw [← hmE]; exact nightN_le hni hni9 hxx
      rw [hmE] at hk1 hk2 hk3
      refine lv_aload_n hx hb dX7_check_36 rfl (lv_at hl 1 rfl) ?_
      refine s_get (v := .ref (ad 0)) fb7 cf hw 0 rfl 0 rfl q921 (hf2.2 0 rfl) dX7_check_37 ?_
      refine lv_aload_n hx hb dX7_check_40 rfl (lv_at hl 1 rfl) ?_
      refine s_get (v := .ref (ad 3)) fb7 cf hw 0 rfl 3 rfl q924 (hf2.2 3 rfl) dX7_check_41 ?_
      refine s_callv (runS cf (m_copies (x := ad 0) (y := ad 3) (f := d) (t := ov)) hw [1, 3] (by decide) rfl km_X7_copies ks_X7_copies q1203 rfl rfl hl.1 rfl dX7_check_44) hw [1, 3] (by decide) rfl (fun _ => rfl) (fun u_4 H locs hp_5 hw => ?_)
      have hw : WD g A s H locs [bO a 7 (fs.set 38 (.int 0)), bI g (ad 0) 60 d, bI g (ad 1) 60 kd, bI g (ad 3) 60 d, bI g (ad 5) 1344 cdf, bI g (ad 6) 14 kf, bI g (ad 7) 14 sf, bI g (ad 9) 96 pl, bI g (ad 37) 60 ws] := hw
      refine lv_aload_n hx hb dX7_check_47 rfl (lv_at hl 1 rfl) ?_
      refine s_get (v := .ref (ad 1)) fb7 cf hw 0 rfl 1 rfl q922 (hf2.2 1 rfl) dX7_check_48 ?_
      refine lv_aload_n hx hb dX7_check_51 rfl (lv_at hl 1 rfl) ?_
      refine s_get (v := .ref (ad 0)) fb7 cf hw 0 rfl 0 rfl q921 (hf2.2 0 rfl) dX7_check_52 ?_
      refine s_callv (runS cf (m_copies (x := ad 1) (y := ad 0) (f := kd) (t := d)) hw [2, 1] (by decide) rfl km_X7_copies ks_X7_copies q1203 rfl rfl hl.1 rfl dX7_check_55) hw [2, 1] (by decide) rfl (fun _ => rfl) (fun u_6 H locs hp_7 hw => ?_)
      have hw : WD g A s H locs [bO a 7 (fs.set 38 (.int 0)), bI g (ad 0) 60 kd, bI g (ad 1) 60 kd, bI g (ad 3) 60 d, bI g (ad 5) 1344 cdf, bI g (ad 6) 14 kf, bI g (ad 7) 14 sf, bI g (ad 9) 96 pl, bI g (ad 37) 60 ws] := hw
      refine lv_iconst (v := 2) hx hb dX7_check_58 (by decide) ?_
      refine lv_iload_n hx hb dX7_check_59 rfl (lv_at hl 2 rfl) ?_
      refine lv_iconst (v := 0) hx hb dX7_check_60 (by decide) ?_
      refine lv_sipush (v := 9999) hx hb dX7_check_61 (by decide) ?_
      refine lv_aload_n hx hb dX7_check_64 rfl (lv_at hl 1 rfl) ?_
      refine s_get (v := .ref (ad 0)) fb7 cf hw 0 rfl 0 rfl q921 (hf2.2 0 rfl) dX7_check_65 ?_
      refine lv_iconst (v := 1) hx hb dX7_check_68 (by decide) ?_
      refine s_iald (j := 1) cf hw 1 rfl (rfl) (by decide) rfl dX7_check_69 ?_
      refine lv_isub hx hb dX7_check_70 ?_
      refine s_calli (runS cf (m_held (nI xx) 0 (9999 - (kd 1))) hw [] (by decide) rfl km_X7_held ks_X7_held q1090 rfl rfl hl.1 rfl dX7_check_71) hw [] (by decide) rfl (fun _ => rfl) (fun r_10 u_8 H locs hp_9 hw => ?_)
      have hw : WD g A s H locs [bO a 7 (fs.set 38 (.int 0)), bI g (ad 0) 60 kd, bI g (ad 1) 60 kd, bI g (ad 3) 60 d, bI g (ad 5) 1344 cdf, bI g (ad 6) 14 kf, bI g (ad 7) 14 sf, bI g (ad 9) 96 pl, bI g (ad 37) 60 ws] := hw
      subst hp_9
      refine lv_topr (y := nI m_) (hk1) ?_
      refine lv_imul hx hb dX7_check_74 ?_
      refine lv_topr (y := nI (2 * m_)) (pk_mul 2 m_) ?_
      refine lv_istore_n (lv' := [(3, .int (nI (2 * m_))), (2, .int (nI wt)), (0, .ref a), (1, .int (nI xx))]) hx hb dX7_check_75 rfl hl (by decide) rfl (fun ls hl => ?_)
      refine lv_iconst (v := 0) hx hb dX7_check_76 (by decide) ?_
      refine lv_istore (lv' := [(4, .int 0), (3, .int (nI (2 * m_))), (2, .int (nI wt)), (0, .ref a), (1, .int (nI xx))]) hx hb dX7_check_77 hl (by decide) rfl (fun ls hl => ?_)
      refine lv_iconst (v := 1) hx hb dX7_check_79 (by decide) ?_
      refine lv_istore (lv' := [(5, .int 1), (4, .int 0), (3, .int (nI (2 * m_))), (2, .int (nI wt)), (0, .ref a), (1, .int (nI xx))]) hx hb dX7_check_80 hl (by decide) rfl (fun ls hl => ?_)
      refine lv_iconst (v := 0) hx hb dX7_check_82 (by decide) ?_
      refine lv_istore (lv' := [(6, .int 0), (5, .int 1), (4, .int 0), (3, .int (nI (2 * m_))), (2, .int (nI wt)), (0, .ref a), (1, .int (nI xx))]) hx hb dX7_check_83 hl (by decide) rfl (fun ls hl => ?_)
      have L85 : ∀ (fu : Nat) (i : Nat) (b rt : Int32) (pl : DD), (i ≤ 2 * m_) → ((b = 1 ∧ rt = nI i ∧ ckL ft kd ws wt (2 * m_ - i) i = ckQ ft kd ws wt m_) ∨ (b = 0 ∧ 0 < i ∧ rt = nI (i - 1) ∧ ckQ ft kd ws wt m_ = i - 1 ∧ i - 1 < 2 * m_)) → (2 * m_ < i + fu) → ∀ (H : Heap) (locs : List Loc) (ls : Array Slot), WD g A s H locs [bO a 7 (fs.set 38 (.int 0)), bI g (ad 0) 60 (nightsF ft ((i + 1) / 2) kd), bI g (ad 1) 60 kd, bI g (ad 3) 60 d, bI g (ad 5) 1344 cdf, bI g (ad 6) 14 kf, bI g (ad 7) 14 sf, bI g (ad 9) 96 pl, bI g (ad 37) 60 ws] → lv_has ls 7 [(0, .ref a), (1, .int (nI xx)), (2, .int (nI wt)), (3, .int (nI (2 * m_))), (4, .int rt), (5, .int b), (6, .int (nI i))] → W p l e (rmx 6 0 0) s m args below meth c H locs 0 0 Qf (F0 m 85 ls []) := by
        intro fu
        induction fu with
        | zero => intro i b rt pl hi hinv hfu; exfalso; omega
        | succ fu ih85 =>
          intro i b rt pl hi hinv hfu H locs ls hw hl
          refine lv_iload hx hb dX7_check_85 (lv_at hl 6 rfl) ?_
          refine lv_iload_n hx hb dX7_check_87 rfl (lv_at hl 3 rfl) ?_
          refine lv_icmp_ge (tgt := 173) hx hb dX7_check_88 (by decide) (fun c88 => ?_) (fun c88 => ?_)
          · have hie : i = 2 * m_ := by have := nI_le_of (by omega) c88 (by omega); omega
            have hfin : ckFin b rt (ckQ ft kd ws wt m_) (2 * m_) := by rcases hinv with ⟨h1, h2, h3⟩ | ⟨h1, h2, h3, h4, h5⟩; exact Or.inl ⟨by rw [h1]; decide, by rw [h2, ← h3, hie, Nat.sub_self]; rfl, by rw [← h3, hie, Nat.sub_self]; rfl⟩; exact Or.inr ⟨h1, by rw [h3, h4], by omega⟩
            refine lv_aload_n hx hb dX7_check_173 rfl (lv_at hl 0 rfl) ?_
            refine s_get (v := .ref (ad 3)) fb7 cf hw 0 rfl 3 rfl q924 (hf2.2 3 rfl) dX7_check_174 ?_
            refine lv_aload_n hx hb dX7_check_177 rfl (lv_at hl 0 rfl) ?_
            refine s_get (v := .ref (ad 0)) fb7 cf hw 0 rfl 0 rfl q921 (hf2.2 0 rfl) dX7_check_178 ?_
            refine s_callv (runS cf (m_copies (x := ad 3) (y := ad 0) (f := d) (t := nightsF ft ((i + 1) / 2) kd)) hw [3, 1] (by decide) rfl km_X7_copies ks_X7_copies q1203 rfl rfl hl.1 rfl dX7_check_181) hw [3, 1] (by decide) rfl (fun _ => rfl) (fun u_11 H locs hp_12 hw => ?_)
            have hw : WD g A s H locs [bO a 7 (fs.set 38 (.int 0)), bI g (ad 0) 60 d, bI g (ad 1) 60 kd, bI g (ad 3) 60 d, bI g (ad 5) 1344 cdf, bI g (ad 6) 14 kf, bI g (ad 7) 14 sf, bI g (ad 9) 96 pl, bI g (ad 37) 60 ws] := hw
            refine lv_iload hx hb dX7_check_184 (lv_at hl 5 rfl) ?_
            refine lv_if_eq (tgt := 199) hx hb dX7_check_186 (by decide) (fun c186 => ?_) (fun c186 => ?_)
            · refine lv_iconst (v := 1) hx hb dX7_check_199 (by decide) ?_
              refine lv_iload hx hb dX7_check_200 (lv_at hl 4 rfl) ?_
              refine lv_iadd hx hb dX7_check_202 ?_
              exact s_iret cf hr hlk (d, pl) hw (by unfold R_check; rw [if_pos c19, if_neg c29, hmE]; exact ck_end1 hfin (by omega) hwt60 (Or.inl c186)) (Nat.le_of_ble_eq_true rfl) (Nat.le_of_ble_eq_true rfl) dX7_check_203 hQ
            · refine lv_iload hx hb dX7_check_189 (lv_at hl 4 rfl) ?_
              refine lv_iload_n hx hb dX7_check_191 rfl (lv_at hl 2 rfl) ?_
              refine lv_icmp_ne (tgt := 199) hx hb dX7_check_192 (by decide) (fun c192 => ?_) (fun c192 => ?_)
              · refine lv_iconst (v := 1) hx hb dX7_check_199 (by decide) ?_
                refine lv_iload hx hb dX7_check_200 (lv_at hl 4 rfl) ?_
                refine lv_iadd hx hb dX7_check_202 ?_
                exact s_iret cf hr hlk (d, pl) hw (by unfold R_check; rw [if_pos c19, if_neg c29, hmE]; exact ck_end1 hfin (by omega) hwt60 (Or.inr c192)) (Nat.le_of_ble_eq_true rfl) (Nat.le_of_ble_eq_true rfl) dX7_check_203 hQ
              · refine lv_iconst (v := 0) hx hb dX7_check_195 (by decide) ?_
                refine lv_goto (tgt := 203) hx hb dX7_check_196 (by decide) ?_
                exact s_iret cf hr hlk (d, pl) hw (by unfold R_check; rw [if_pos c19, if_neg c29, hmE]; exact ck_end0 hfin (by omega) hwt60 c186 c192) (Nat.le_of_ble_eq_true rfl) (Nat.le_of_ble_eq_true rfl) dX7_check_203 hQ
          · have hlt : i < 2 * m_ := nI_lt_of (by omega) c88 (by omega)
            have hd0 : nightsF ft (i / 2 + 1) kd 0 = nI n := by rw [nightsF_lo (by omega) (by omega) (by omega) (by omega) (by omega) (by omega)]; exact hn
            refine lv_iload hx hb dX7_check_91 (lv_at hl 5 rfl) ?_
            refine lv_if_eq (tgt := 173) hx hb dX7_check_93 (by decide) (fun c93 => ?_) (fun c93 => ?_)
            · have hfin : ckFin b rt (ckQ ft kd ws wt m_) (2 * m_) := by rcases hinv with ⟨h1, h2, h3⟩ | ⟨h1, h2, h3, h4, h5⟩; exact absurd (h1.symm.trans c93) (by decide); exact Or.inr ⟨h1, by rw [h3, h4], by omega⟩
              refine lv_aload_n hx hb dX7_check_173 rfl (lv_at hl 0 rfl) ?_
              refine s_get (v := .ref (ad 3)) fb7 cf hw 0 rfl 3 rfl q924 (hf2.2 3 rfl) dX7_check_174 ?_
              refine lv_aload_n hx hb dX7_check_177 rfl (lv_at hl 0 rfl) ?_
              refine s_get (v := .ref (ad 0)) fb7 cf hw 0 rfl 0 rfl q921 (hf2.2 0 rfl) dX7_check_178 ?_
              refine s_callv (runS cf (m_copies (x := ad 3) (y := ad 0) (f := d) (t := nightsF ft ((i + 1) / 2) kd)) hw [3, 1] (by decide) rfl km_X7_copies ks_X7_copies q1203 rfl rfl hl.1 rfl dX7_check_181) hw [3, 1] (by decide) rfl (fun _ => rfl) (fun u_13 H locs hp_14 hw => ?_)
              have hw : WD g A s H locs [bO a 7 (fs.set 38 (.int 0)), bI g (ad 0) 60 d, bI g (ad 1) 60 kd, bI g (ad 3) 60 d, bI g (ad 5) 1344 cdf, bI g (ad 6) 14 kf, bI g (ad 7) 14 sf, bI g (ad 9) 96 pl, bI g (ad 37) 60 ws] := hw
              refine lv_iload hx hb dX7_check_184 (lv_at hl 5 rfl) ?_
              refine lv_if_eq (tgt := 199) hx hb dX7_check_186 (by decide) (fun c186 => ?_) (fun c186 => ?_)
              · refine lv_iconst (v := 1) hx hb dX7_check_199 (by decide) ?_
                refine lv_iload hx hb dX7_check_200 (lv_at hl 4 rfl) ?_
                refine lv_iadd hx hb dX7_check_202 ?_
                exact s_iret cf hr hlk (d, pl) hw (by unfold R_check; rw [if_pos c19, if_neg c29, hmE]; exact ck_end1 hfin (by omega) hwt60 (Or.inl c186)) (Nat.le_of_ble_eq_true rfl) (Nat.le_of_ble_eq_true rfl) dX7_check_203 hQ
              · refine lv_iload hx hb dX7_check_189 (lv_at hl 4 rfl) ?_
                refine lv_iload_n hx hb dX7_check_191 rfl (lv_at hl 2 rfl) ?_
                refine lv_icmp_ne (tgt := 199) hx hb dX7_check_192 (by decide) (fun c192 => ?_) (fun c192 => ?_)
                · refine lv_iconst (v := 1) hx hb dX7_check_199 (by decide) ?_
                  refine lv_iload hx hb dX7_check_200 (lv_at hl 4 rfl) ?_
                  refine lv_iadd hx hb dX7_check_202 ?_
                  exact s_iret cf hr hlk (d, pl) hw (by unfold R_check; rw [if_pos c19, if_neg c29, hmE]; exact ck_end1 hfin (by omega) hwt60 (Or.inr c192)) (Nat.le_of_ble_eq_true rfl) (Nat.le_of_ble_eq_true rfl) dX7_check_203 hQ
                · refine lv_iconst (v := 0) hx hb dX7_check_195 (by decide) ?_
                  refine lv_goto (tgt := 203) hx hb dX7_check_196 (by decide) ?_
                  exact s_iret cf hr hlk (d, pl) hw (by unfold R_check; rw [if_pos c19, if_neg c29, hmE]; exact ck_end0 hfin (by omega) hwt60 c186 c192) (Nat.le_of_ble_eq_true rfl) (Nat.le_of_ble_eq_true rfl) dX7_check_203 hQ
            · obtain ⟨hb1, hrt, hck⟩ := hinv.resolve_right (fun z => c93 z.1)
              refine lv_iload hx hb dX7_check_96 (lv_at hl 6 rfl) ?_
              refine lv_iconst (v := 2) hx hb dX7_check_98 (by decide) ?_
              refine lv_irem hx hb dX7_check_99 (by decide) ?_
              refine lv_topr (y := nI (i % 2)) (rem_nat (b := 2) (by omega) (by omega) (by omega)) ?_
              refine lv_if_ne (tgt := 107) hx hb dX7_check_100 (by decide) (fun c100 => ?_) (fun c100 => ?_)
              · have hw : WD g A s H locs [bO a 7 (fs.set 38 (.int 0)), bI g (ad 0) 60 (nightsF ft (i / 2 + 1) kd), bI g (ad 1) 60 kd, bI g (ad 3) 60 d, bI g (ad 5) 1344 cdf, bI g (ad 6) 14 kf, bI g (ad 7) 14 sf, bI g (ad 9) 96 pl, bI g (ad 37) 60 ws] := by have q : nightsF ft (i / 2 + 1) kd = nightsF ft ((i + 1) / 2) kd := (by rw [show (i + 1) / 2 = i / 2 + 1 by have : i % 2 ≠ 0 := fun z => c100 (by rw [z]; rfl); omega]); rw [q]; exact hw
                refine lv_iload hx hb dX7_check_107 (lv_at hl 6 rfl) ?_
                refine lv_iload_n hx hb dX7_check_109 rfl (lv_at hl 2 rfl) ?_
                refine lv_icmp_ge (tgt := 149) hx hb dX7_check_110 (by decide) (fun c110 => ?_) (fun c110 => ?_)
                · have hiw : ¬ i < wt := by have := nI_le_of (by omega) c110 (by omega); omega
                  refine lv_iconst (v := 0) hx hb dX7_check_149 (by decide) ?_
                  refine lv_istore (lv' := [(5, .int 0), (0, .ref a), (1, .int (nI xx)), (2, .int (nI wt)), (3, .int (nI (2 * m_))), (4, .int rt), (6, .int (nI i))]) hx hb dX7_check_150 hl (by decide) rfl (fun ls hl => ?_)
                  refine lv_iload hx hb dX7_check_152 (lv_at hl 5 rfl) ?_
                  refine lv_iload hx hb dX7_check_154 (lv_at hl 0 rfl) ?_
                  refine lv_if_eq (tgt := 163) hx hb dX7_check_156 (by decide) (fun c156 => ?_) (fun c156 => ?_)
                  · refine lv_iconst (v := 0) hx hb dX7_check_163 (by decide) ?_
                    refine lv_iadd hx hb dX7_check_164 ?_
                    refine lv_istore (lv' := [(4, .int (rt + 0)), (5, .int 0), (0, .ref a), (1, .int (nI xx)), (2, .int (nI wt)), (3, .int (nI (2 * m_))), (6, .int (nI i))]) hx hb dX7_check_165 hl (by decide) rfl (fun ls hl => ?_)
                    refine lv_iinc (v := nI (i + 1)) (lv' := [(6, .int (nI (i + 1))), (4, .int (rt + 0)), (5, .int 0), (0, .ref a), (1, .int (nI xx)), (2, .int (nI wt)), (3, .int (nI (2 * m_)))]) hx hb dX7_check_167 hl (k := 6) rfl (nI_1 i) (by decide) rfl (fun ls hl => ?_)
                    refine lv_goto (tgt := 85) hx hb dX7_check_170 (by decide) ?_
                    have hw : WD g A s H locs [bO a 7 (fs.set 38 (.int 0)), bI g (ad 0) 60 (nightsF ft ((i + 1 + 1) / 2) kd), bI g (ad 1) 60 kd, bI g (ad 3) 60 d, bI g (ad 5) 1344 cdf, bI g (ad 6) 14 kf, bI g (ad 7) 14 sf, bI g (ad 9) 96 pl, bI g (ad 37) 60 ws] := by rw [show (i + 1 + 1) / 2 = i / 2 + 1 by omega]; exact hw
                    exact ih85 (i + 1) 0 (rt + 0) pl (by omega) (Or.inr ⟨rfl, by omega, by rw [hrt, Nat.add_sub_cancel]; exact Int32.add_zero _, by rw [← hck, show 2 * m_ - i = (2 * m_ - (i + 1)) + 1 by omega, Nat.add_sub_cancel]; exact ckL_h (fun z => absurd z.1 hiw), by omega⟩) (by omega) _ _ _ hw (lv_sub hl [3, 4, 5, 6, 1, 2, 0] rfl)
                  · exact absurd c156 (by decide)
                · have hiw : i < wt := nI_lt_of (by omega) c110 (by omega)
                  refine lv_aload_n hx hb dX7_check_113 rfl (lv_at hl 0 rfl) ?_
                  refine s_get (v := .ref (ad 37)) fb7 cf hw 0 rfl 37 rfl q958 (hf2.2 37 rfl) dX7_check_114 ?_
                  refine lv_iload hx hb dX7_check_117 (lv_at hl 6 rfl) ?_
                  refine s_iald (j := i) cf hw 8 rfl (rfl) (by omega) rfl dX7_check_119 ?_
                  refine lv_iload hx hb dX7_check_120 (lv_at hl 6 rfl) ?_
                  refine lv_iconst (v := 2) hx hb dX7_check_122 (by decide) ?_
                  refine lv_irem hx hb dX7_check_123 (by decide) ?_
                  refine lv_topr (y := nI (i % 2)) (rem_nat (b := 2) (by omega) (by omega) (by omega)) ?_
                  refine lv_if_ne (tgt := 137) hx hb dX7_check_124 (by decide) (fun c124 => ?_) (fun c124 => ?_)
                  · refine lv_aload_n hx hb dX7_check_137 rfl (lv_at hl 0 rfl) ?_
                    refine lv_iconst (v := 3) hx hb dX7_check_138 (by decide) ?_
                    refine s_calli (runV cf (m_sumOf (d := nightsF ft (i / 2 + 1) kd) hf2 (n := n) hd0 hn10 3 (by omega)) hw [0, 1] (by decide) rfl km_X7_sumOf ki_X7_sumOf q1190 (run_recv (ci := 7) (T := TX7) (N := 39) hw 0 rfl rfl) rfl rfl hl.1 rfl dX7_check_139) hw [0, 1] (by decide) rfl (fun _ => rfl) (fun r_17 u_15 H locs hp_16 hw => ?_)
                    have hw : WD g A s H locs [bO a 7 (fs.set 38 (.int 0)), bI g (ad 0) 60 (nightsF ft (i / 2 + 1) kd), bI g (ad 1) 60 kd, bI g (ad 3) 60 d, bI g (ad 5) 1344 cdf, bI g (ad 6) 14 kf, bI g (ad 7) 14 sf, bI g (ad 9) 96 pl, bI g (ad 37) 60 ws] := hw
                    subst hp_16
                    refine lv_topr (y := ckN ft kd i) (by unfold ckN; rw [if_neg (fun z => c124 (by rw [z]; rfl))]) ?_
                    refine lv_icmp_ne (tgt := 149) hx hb dX7_check_142 (by decide) (fun c142 => ?_) (fun c142 => ?_)
                    · refine lv_iconst (v := 0) hx hb dX7_check_149 (by decide) ?_
                      refine lv_istore (lv' := [(5, .int 0), (0, .ref a), (1, .int (nI xx)), (2, .int (nI wt)), (3, .int (nI (2 * m_))), (4, .int rt), (6, .int (nI i))]) hx hb dX7_check_150 hl (by decide) rfl (fun ls hl => ?_)
                      refine lv_iload hx hb dX7_check_152 (lv_at hl 5 rfl) ?_
                      refine lv_iload hx hb dX7_check_154 (lv_at hl 0 rfl) ?_
                      refine lv_if_eq (tgt := 163) hx hb dX7_check_156 (by decide) (fun c156 => ?_) (fun c156 => ?_)
                      · refine lv_iconst (v := 0) hx hb dX7_check_163 (by decide) ?_
                        refine lv_iadd hx hb dX7_check_164 ?_
                        refine lv_istore (lv' := [(4, .int (rt + 0)), (5, .int 0), (0, .ref a), (1, .int (nI xx)), (2, .int (nI wt)), (3, .int (nI (2 * m_))), (6, .int (nI i))]) hx hb dX7_check_165 hl (by decide) rfl (fun ls hl => ?_)
                        refine lv_iinc (v := nI (i + 1)) (lv' := [(6, .int (nI (i + 1))), (4, .int (rt + 0)), (5, .int 0), (0, .ref a), (1, .int (nI xx)), (2, .int (nI wt)), (3, .int (nI (2 * m_)))]) hx hb dX7_check_167 hl (k := 6) rfl (nI_1 i) (by decide) rfl (fun ls hl => ?_)
                        refine lv_goto (tgt := 85) hx hb dX7_check_170 (by decide) ?_
                        have hw : WD g A s H locs [bO a 7 (fs.set 38 (.int 0)), bI g (ad 0) 60 (nightsF ft ((i + 1 + 1) / 2) kd), bI g (ad 1) 60 kd, bI g (ad 3) 60 d, bI g (ad 5) 1344 cdf, bI g (ad 6) 14 kf, bI g (ad 7) 14 sf, bI g (ad 9) 96 pl, bI g (ad 37) 60 ws] := by rw [show (i + 1 + 1) / 2 = i / 2 + 1 by omega]; exact hw
                        exact ih85 (i + 1) 0 (rt + 0) pl (by omega) (Or.inr ⟨rfl, by omega, by rw [hrt, Nat.add_sub_cancel]; exact Int32.add_zero _, by rw [← hck, show 2 * m_ - i = (2 * m_ - (i + 1)) + 1 by omega, Nat.add_sub_cancel]; exact ckL_h (fun z => c142 z.2), by omega⟩) (by omega) _ _ _ hw (lv_sub hl [3, 4, 5, 6, 1, 2, 0] rfl)
                      · exact absurd c156 (by decide)
                    · refine lv_iconst (v := 1) hx hb dX7_check_145 (by decide) ?_
                      refine lv_goto (tgt := 150) hx hb dX7_check_146 (by decide) ?_
                      refine lv_istore (lv' := [(5, .int 1), (0, .ref a), (1, .int (nI xx)), (2, .int (nI wt)), (3, .int (nI (2 * m_))), (4, .int rt), (6, .int (nI i))]) hx hb dX7_check_150 hl (by decide) rfl (fun ls hl => ?_)
                      refine lv_iload hx hb dX7_check_152 (lv_at hl 5 rfl) ?_
                      refine lv_iload hx hb dX7_check_154 (lv_at hl 0 rfl) ?_
                      refine lv_if_eq (tgt := 163) hx hb dX7_check_156 (by decide) (fun c156 => ?_) (fun c156 => ?_)
                      · exact absurd c156 (by decide)
                      · refine lv_iconst (v := 1) hx hb dX7_check_159 (by decide) ?_
                        refine lv_goto (tgt := 164) hx hb dX7_check_160 (by decide) ?_
                        refine lv_iadd hx hb dX7_check_164 ?_
                        refine lv_istore (lv' := [(4, .int (rt + 1)), (5, .int 1), (0, .ref a), (1, .int (nI xx)), (2, .int (nI wt)), (3, .int (nI (2 * m_))), (6, .int (nI i))]) hx hb dX7_check_165 hl (by decide) rfl (fun ls hl => ?_)
                        refine lv_iinc (v := nI (i + 1)) (lv' := [(6, .int (nI (i + 1))), (4, .int (rt + 1)), (5, .int 1), (0, .ref a), (1, .int (nI xx)), (2, .int (nI wt)), (3, .int (nI (2 * m_)))]) hx hb dX7_check_167 hl (k := 6) rfl (nI_1 i) (by decide) rfl (fun ls hl => ?_)
                        refine lv_goto (tgt := 85) hx hb dX7_check_170 (by decide) ?_
                        have hw : WD g A s H locs [bO a 7 (fs.set 38 (.int 0)), bI g (ad 0) 60 (nightsF ft ((i + 1 + 1) / 2) kd), bI g (ad 1) 60 kd, bI g (ad 3) 60 d, bI g (ad 5) 1344 cdf, bI g (ad 6) 14 kf, bI g (ad 7) 14 sf, bI g (ad 9) 96 pl, bI g (ad 37) 60 ws] := by rw [show (i + 1 + 1) / 2 = i / 2 + 1 by omega]; exact hw
                        exact ih85 (i + 1) 1 (rt + 1) pl (by omega) (Or.inl ⟨rfl, by rw [hrt]; exact nI_1 i, by rw [← hck, show 2 * m_ - i = (2 * m_ - (i + 1)) + 1 by omega]; exact (ckL_s (fun z => z ⟨hiw, c142⟩)).symm⟩) (by omega) _ _ _ hw (lv_sub hl [3, 4, 5, 6, 1, 2, 0] rfl)
                  · refine lv_aload_n hx hb dX7_check_127 rfl (lv_at hl 0 rfl) ?_
                    refine s_get (v := .ref (ad 0)) fb7 cf hw 0 rfl 0 rfl q921 (hf2.2 0 rfl) dX7_check_128 ?_
                    refine lv_bipush (v := 6) hx hb dX7_check_131 (by decide) ?_
                    refine s_iald (j := 6) cf hw 1 rfl (rfl) (by decide) rfl dX7_check_133 ?_
                    refine lv_goto (tgt := 142) hx hb dX7_check_134 (by decide) ?_
                    refine lv_topr (y := ckN ft kd i) (by unfold ckN; rw [if_pos ((nI_eq (b := 0) (by omega) (by omega)).mp c124)]) ?_
                    refine lv_icmp_ne (tgt := 149) hx hb dX7_check_142 (by decide) (fun c142 => ?_) (fun c142 => ?_)
                    · refine lv_iconst (v := 0) hx hb dX7_check_149 (by decide) ?_
                      refine lv_istore (lv' := [(5, .int 0), (0, .ref a), (1, .int (nI xx)), (2, .int (nI wt)), (3, .int (nI (2 * m_))), (4, .int rt), (6, .int (nI i))]) hx hb dX7_check_150 hl (by decide) rfl (fun ls hl => ?_)
                      refine lv_iload hx hb dX7_check_152 (lv_at hl 5 rfl) ?_
                      refine lv_iload hx hb dX7_check_154 (lv_at hl 0 rfl) ?_
                      refine lv_if_eq (tgt := 163) hx hb dX7_check_156 (by decide) (fun c156 => ?_) (fun c156 => ?_)
                      · refine lv_iconst (v := 0) hx hb dX7_check_163 (by decide) ?_
                        refine lv_iadd hx hb dX7_check_164 ?_
                        refine lv_istore (lv' := [(4, .int (rt + 0)), (5, .int 0), (0, .ref a), (1, .int (nI xx)), (2, .int (nI wt)), (3, .int (nI (2 * m_))), (6, .int (nI i))]) hx hb dX7_check_165 hl (by decide) rfl (fun ls hl => ?_)
                        refine lv_iinc (v := nI (i + 1)) (lv' := [(6, .int (nI (i + 1))), (4, .int (rt + 0)), (5, .int 0), (0, .ref a), (1, .int (nI xx)), (2, .int (nI wt)), (3, .int (nI (2 * m_)))]) hx hb dX7_check_167 hl (k := 6) rfl (nI_1 i) (by decide) rfl (fun ls hl => ?_)
                        refine lv_goto (tgt := 85) hx hb dX7_check_170 (by decide) ?_
                        have hw : WD g A s H locs [bO a 7 (fs.set 38 (.int 0)), bI g (ad 0) 60 (nightsF ft ((i + 1 + 1) / 2) kd), bI g (ad 1) 60 kd, bI g (ad 3) 60 d, bI g (ad 5) 1344 cdf, bI g (ad 6) 14 kf, bI g (ad 7) 14 sf, bI g (ad 9) 96 pl, bI g (ad 37) 60 ws] := by rw [show (i + 1 + 1) / 2 = i / 2 + 1 by omega]; exact hw
                        exact ih85 (i + 1) 0 (rt + 0) pl (by omega) (Or.inr ⟨rfl, by omega, by rw [hrt, Nat.add_sub_cancel]; exact Int32.add_zero _, by rw [← hck, show 2 * m_ - i = (2 * m_ - (i + 1)) + 1 by omega, Nat.add_sub_cancel]; exact ckL_h (fun z => c142 z.2), by omega⟩) (by omega) _ _ _ hw (lv_sub hl [3, 4, 5, 6, 1, 2, 0] rfl)
                      · exact absurd c156 (by decide)
                    · refine lv_iconst (v := 1) hx hb dX7_check_145 (by decide) ?_
                      refine lv_goto (tgt := 150) hx hb dX7_check_146 (by decide) ?_
                      refine lv_istore (lv' := [(5, .int 1), (0, .ref a), (1, .int (nI xx)), (2, .int (nI wt)), (3, .int (nI (2 * m_))), (4, .int rt), (6, .int (nI i))]) hx hb dX7_check_150 hl (by decide) rfl (fun ls hl => ?_)
                      refine lv_iload hx hb dX7_check_152 (lv_at hl 5 rfl) ?_
                      refine lv_iload hx hb dX7_check_154 (lv_at hl 0 rfl) ?_
                      refine lv_if_eq (tgt := 163) hx hb dX7_check_156 (by decide) (fun c156 => ?_) (fun c156 => ?_)
                      · exact absurd c156 (by decide)
                      · refine lv_iconst (v := 1) hx hb dX7_check_159 (by decide) ?_
                        refine lv_goto (tgt := 164) hx hb dX7_check_160 (by decide) ?_
                        refine lv_iadd hx hb dX7_check_164 ?_
                        refine lv_istore (lv' := [(4, .int (rt + 1)), (5, .int 1), (0, .ref a), (1, .int (nI xx)), (2, .int (nI wt)), (3, .int (nI (2 * m_))), (6, .int (nI i))]) hx hb dX7_check_165 hl (by decide) rfl (fun ls hl => ?_)
                        refine lv_iinc (v := nI (i + 1)) (lv' := [(6, .int (nI (i + 1))), (4, .int (rt + 1)), (5, .int 1), (0, .ref a), (1, .int (nI xx)), (2, .int (nI wt)), (3, .int (nI (2 * m_)))]) hx hb dX7_check_167 hl (k := 6) rfl (nI_1 i) (by decide) rfl (fun ls hl => ?_)
                        refine lv_goto (tgt := 85) hx hb dX7_check_170 (by decide) ?_
                        have hw : WD g A s H locs [bO a 7 (fs.set 38 (.int 0)), bI g (ad 0) 60 (nightsF ft ((i + 1 + 1) / 2) kd), bI g (ad 1) 60 kd, bI g (ad 3) 60 d, bI g (ad 5) 1344 cdf, bI g (ad 6) 14 kf, bI g (ad 7) 14 sf, bI g (ad 9) 96 pl, bI g (ad 37) 60 ws] := by rw [show (i + 1 + 1) / 2 = i / 2 + 1 by omega]; exact hw
                        exact ih85 (i + 1) 1 (rt + 1) pl (by omega) (Or.inl ⟨rfl, by rw [hrt]; exact nI_1 i, by rw [← hck, show 2 * m_ - i = (2 * m_ - (i + 1)) + 1 by omega]; exact (ckL_s (fun z => z ⟨hiw, c142⟩)).symm⟩) (by omega) _ _ _ hw (lv_sub hl [3, 4, 5, 6, 1, 2, 0] rfl)
              · refine lv_aload_n hx hb dX7_check_103 rfl (lv_at hl 0 rfl) ?_
                refine s_callv (runV cf (m_nightGoes (d := nightsF ft ((i + 1) / 2) kd) (cdf := cdf) (kf := kf) (sf := sf) (pl := pl) (ft := ft) hf2 (hT.of (nightsF_lo (by omega) (by omega) (by omega) (by omega) (by omega) (by omega))) (n := n) (by rw [nightsF_lo (by omega) (by omega) (by omega) (by omega) (by omega) (by omega)]; exact hn) hn10 (nightsF_1 hni ((i + 1) / 2)) (by omega)) hw [0, 1, 4, 5, 6, 7] (by decide) rfl km_X7_nightGoes ki_X7_nightGoes q1178 (run_recv (ci := 7) (T := TX7) (N := 39) hw 0 rfl rfl) rfl rfl hl.1 rfl dX7_check_104) hw [0, 1, 4, 5, 6, 7] (by decide) rfl (fun _ => rfl) (fun u_18 H locs hp_19 hw => ?_)
                have hw : WD g A s H locs [bO a 7 (fs.set 38 (.int 0)), bI g (ad 0) 60 (nightF ft (nightsF ft ((i + 1) / 2) kd)), bI g (ad 1) 60 kd, bI g (ad 3) 60 d, bI g (ad 5) 1344 cdf, bI g (ad 6) 14 kf, bI g (ad 7) 14 sf, bI g (ad 9) 96 u_18, bI g (ad 37) 60 ws] := hw
                have hw : WD g A s H locs [bO a 7 (fs.set 38 (.int 0)), bI g (ad 0) 60 (nightsF ft (i / 2 + 1) kd), bI g (ad 1) 60 kd, bI g (ad 3) 60 d, bI g (ad 5) 1344 cdf, bI g (ad 6) 14 kf, bI g (ad 7) 14 sf, bI g (ad 9) 96 u_18, bI g (ad 37) 60 ws] := by have q : nightsF ft (i / 2 + 1) kd = nightF ft (nightsF ft ((i + 1) / 2) kd) := (by rw [show (i + 1) / 2 = i / 2 by have := (nI_eq (b := 0) (by omega) (by omega)).mp c100; omega]; rfl); rw [q]; exact hw
                refine lv_iload hx hb dX7_check_107 (lv_at hl 6 rfl) ?_
                refine lv_iload_n hx hb dX7_check_109 rfl (lv_at hl 2 rfl) ?_
                refine lv_icmp_ge (tgt := 149) hx hb dX7_check_110 (by decide) (fun c110 => ?_) (fun c110 => ?_)
                · have hiw : ¬ i < wt := by have := nI_le_of (by omega) c110 (by omega); omega
                  refine lv_iconst (v := 0) hx hb dX7_check_149 (by decide) ?_
                  refine lv_istore (lv' := [(5, .int 0), (0, .ref a), (1, .int (nI xx)), (2, .int (nI wt)), (3, .int (nI (2 * m_))), (4, .int rt), (6, .int (nI i))]) hx hb dX7_check_150 hl (by decide) rfl (fun ls hl => ?_)
                  refine lv_iload hx hb dX7_check_152 (lv_at hl 5 rfl) ?_
                  refine lv_iload hx hb dX7_check_154 (lv_at hl 0 rfl) ?_
                  refine lv_if_eq (tgt := 163) hx hb dX7_check_156 (by decide) (fun c156 => ?_) (fun c156 => ?_)
                  · refine lv_iconst (v := 0) hx hb dX7_check_163 (by decide) ?_
                    refine lv_iadd hx hb dX7_check_164 ?_
                    refine lv_istore (lv' := [(4, .int (rt + 0)), (5, .int 0), (0, .ref a), (1, .int (nI xx)), (2, .int (nI wt)), (3, .int (nI (2 * m_))), (6, .int (nI i))]) hx hb dX7_check_165 hl (by decide) rfl (fun ls hl => ?_)
                    refine lv_iinc (v := nI (i + 1)) (lv' := [(6, .int (nI (i + 1))), (4, .int (rt + 0)), (5, .int 0), (0, .ref a), (1, .int (nI xx)), (2, .int (nI wt)), (3, .int (nI (2 * m_)))]) hx hb dX7_check_167 hl (k := 6) rfl (nI_1 i) (by decide) rfl (fun ls hl => ?_)
                    refine lv_goto (tgt := 85) hx hb dX7_check_170 (by decide) ?_
                    have hw : WD g A s H locs [bO a 7 (fs.set 38 (.int 0)), bI g (ad 0) 60 (nightsF ft ((i + 1 + 1) / 2) kd), bI g (ad 1) 60 kd, bI g (ad 3) 60 d, bI g (ad 5) 1344 cdf, bI g (ad 6) 14 kf, bI g (ad 7) 14 sf, bI g (ad 9) 96 u_18, bI g (ad 37) 60 ws] := by rw [show (i + 1 + 1) / 2 = i / 2 + 1 by omega]; exact hw
                    exact ih85 (i + 1) 0 (rt + 0) u_18 (by omega) (Or.inr ⟨rfl, by omega, by rw [hrt, Nat.add_sub_cancel]; exact Int32.add_zero _, by rw [← hck, show 2 * m_ - i = (2 * m_ - (i + 1)) + 1 by omega, Nat.add_sub_cancel]; exact ckL_h (fun z => absurd z.1 hiw), by omega⟩) (by omega) _ _ _ hw (lv_sub hl [3, 4, 5, 6, 1, 2, 0] rfl)
                  · exact absurd c156 (by decide)
                · have hiw : i < wt := nI_lt_of (by omega) c110 (by omega)
                  refine lv_aload_n hx hb dX7_check_113 rfl (lv_at hl 0 rfl) ?_
                  refine s_get (v := .ref (ad 37)) fb7 cf hw 0 rfl 37 rfl q958 (hf2.2 37 rfl) dX7_check_114 ?_
                  refine lv_iload hx hb dX7_check_117 (lv_at hl 6 rfl) ?_
                  refine s_iald (j := i) cf hw 8 rfl (rfl) (by omega) rfl dX7_check_119 ?_
                  refine lv_iload hx hb dX7_check_120 (lv_at hl 6 rfl) ?_
                  refine lv_iconst (v := 2) hx hb dX7_check_122 (by decide) ?_
                  refine lv_irem hx hb dX7_check_123 (by decide) ?_
                  refine lv_topr (y := nI (i % 2)) (rem_nat (b := 2) (by omega) (by omega) (by omega)) ?_
                  refine lv_if_ne (tgt := 137) hx hb dX7_check_124 (by decide) (fun c124 => ?_) (fun c124 => ?_)
                  · refine lv_aload_n hx hb dX7_check_137 rfl (lv_at hl 0 rfl) ?_
                    refine lv_iconst (v := 3) hx hb dX7_check_138 (by decide) ?_
                    refine s_calli (runV cf (m_sumOf (d := nightsF ft (i / 2 + 1) kd) hf2 (n := n) hd0 hn10 3 (by omega)) hw [0, 1] (by decide) rfl km_X7_sumOf ki_X7_sumOf q1190 (run_recv (ci := 7) (T := TX7) (N := 39) hw 0 rfl rfl) rfl rfl hl.1 rfl dX7_check_139) hw [0, 1] (by decide) rfl (fun _ => rfl) (fun r_22 u_20 H locs hp_21 hw => ?_)
                    have hw : WD g A s H locs [bO a 7 (fs.set 38 (.int 0)), bI g (ad 0) 60 (nightsF ft (i / 2 + 1) kd), bI g (ad 1) 60 kd, bI g (ad 3) 60 d, bI g (ad 5) 1344 cdf, bI g (ad 6) 14 kf, bI g (ad 7) 14 sf, bI g (ad 9) 96 u_18, bI g (ad 37) 60 ws] := hw
                    subst hp_21
                    refine lv_topr (y := ckN ft kd i) (by unfold ckN; rw [if_neg (fun z => c124 (by rw [z]; rfl))]) ?_
                    refine lv_icmp_ne (tgt := 149) hx hb dX7_check_142 (by decide) (fun c142 => ?_) (fun c142 => ?_)
                    · refine lv_iconst (v := 0) hx hb dX7_check_149 (by decide) ?_
                      refine lv_istore (lv' := [(5, .int 0), (0, .ref a), (1, .int (nI xx)), (2, .int (nI wt)), (3, .int (nI (2 * m_))), (4, .int rt), (6, .int (nI i))]) hx hb dX7_check_150 hl (by decide) rfl (fun ls hl => ?_)
                      refine lv_iload hx hb dX7_check_152 (lv_at hl 5 rfl) ?_
                      refine lv_iload hx hb dX7_check_154 (lv_at hl 0 rfl) ?_
                      refine lv_if_eq (tgt := 163) hx hb dX7_check_156 (by decide) (fun c156 => ?_) (fun c156 => ?_)
                      · refine lv_iconst (v := 0) hx hb dX7_check_163 (by decide) ?_
                        refine lv_iadd hx hb dX7_check_164 ?_
                        refine lv_istore (lv' := [(4, .int (rt + 0)), (5, .int 0), (0, .ref a), (1, .int (nI xx)), (2, .int (nI wt)), (3, .int (nI (2 * m_))), (6, .int (nI i))]) hx hb dX7_check_165 hl (by decide) rfl (fun ls hl => ?_)
                        refine lv_iinc (v := nI (i + 1)) (lv' := [(6, .int (nI (i + 1))), (4, .int (rt + 0)), (5, .int 0), (0, .ref a), (1, .int (nI xx)), (2, .int (nI wt)), (3, .int (nI (2 * m_)))]) hx hb dX7_check_167 hl (k := 6) rfl (nI_1 i) (by decide) rfl (fun ls hl => ?_)
                        refine lv_goto (tgt := 85) hx hb dX7_check_170 (by decide) ?_
                        have hw : WD g A s H locs [bO a 7 (fs.set 38 (.int 0)), bI g (ad 0) 60 (nightsF ft ((i + 1 + 1) / 2) kd), bI g (ad 1) 60 kd, bI g (ad 3) 60 d, bI g (ad 5) 1344 cdf, bI g (ad 6) 14 kf, bI g (ad 7) 14 sf, bI g (ad 9) 96 u_18, bI g (ad 37) 60 ws] := by rw [show (i + 1 + 1) / 2 = i / 2 + 1 by omega]; exact hw
                        exact ih85 (i + 1) 0 (rt + 0) u_18 (by omega) (Or.inr ⟨rfl, by omega, by rw [hrt, Nat.add_sub_cancel]; exact Int32.add_zero _, by rw [← hck, show 2 * m_ - i = (2 * m_ - (i + 1)) + 1 by omega, Nat.add_sub_cancel]; exact ckL_h (fun z => c142 z.2), by omega⟩) (by omega) _ _ _ hw (lv_sub hl [3, 4, 5, 6, 1, 2, 0] rfl)
                      · exact absurd c156 (by decide)
                    · refine lv_iconst (v := 1) hx hb dX7_check_145 (by decide) ?_
                      refine lv_goto (tgt := 150) hx hb dX7_check_146 (by decide) ?_
                      refine lv_istore (lv' := [(5, .int 1), (0, .ref a), (1, .int (nI xx)), (2, .int (nI wt)), (3, .int (nI (2 * m_))), (4, .int rt), (6, .int (nI i))]) hx hb dX7_check_150 hl (by decide) rfl (fun ls hl => ?_)
                      refine lv_iload hx hb dX7_check_152 (lv_at hl 5 rfl) ?_
                      refine lv_iload hx hb dX7_check_154 (lv_at hl 0 rfl) ?_
                      refine lv_if_eq (tgt := 163) hx hb dX7_check_156 (by decide) (fun c156 => ?_) (fun c156 => ?_)
                      · exact absurd c156 (by decide)
                      · refine lv_iconst (v := 1) hx hb dX7_check_159 (by decide) ?_
                        refine lv_goto (tgt := 164) hx hb dX7_check_160 (by decide) ?_
                        refine lv_iadd hx hb dX7_check_164 ?_
                        refine lv_istore (lv' := [(4, .int (rt + 1)), (5, .int 1), (0, .ref a), (1, .int (nI xx)), (2, .int (nI wt)), (3, .int (nI (2 * m_))), (6, .int (nI i))]) hx hb dX7_check_165 hl (by decide) rfl (fun ls hl => ?_)
                        refine lv_iinc (v := nI (i + 1)) (lv' := [(6, .int (nI (i + 1))), (4, .int (rt + 1)), (5, .int 1), (0, .ref a), (1, .int (nI xx)), (2, .int (nI wt)), (3, .int (nI (2 * m_)))]) hx hb dX7_check_167 hl (k := 6) rfl (nI_1 i) (by decide) rfl (fun ls hl => ?_)
                        refine lv_goto (tgt := 85) hx hb dX7_check_170 (by decide) ?_
                        have hw : WD g A s H locs [bO a 7 (fs.set 38 (.int 0)), bI g (ad 0) 60 (nightsF ft ((i + 1 + 1) / 2) kd), bI g (ad 1) 60 kd, bI g (ad 3) 60 d, bI g (ad 5) 1344 cdf, bI g (ad 6) 14 kf, bI g (ad 7) 14 sf, bI g (ad 9) 96 u_18, bI g (ad 37) 60 ws] := by rw [show (i + 1 + 1) / 2 = i / 2 + 1 by omega]; exact hw
                        exact ih85 (i + 1) 1 (rt + 1) u_18 (by omega) (Or.inl ⟨rfl, by rw [hrt]; exact nI_1 i, by rw [← hck, show 2 * m_ - i = (2 * m_ - (i + 1)) + 1 by omega]; exact (ckL_s (fun z => z ⟨hiw, c142⟩)).symm⟩) (by omega) _ _ _ hw (lv_sub hl [3, 4, 5, 6, 1, 2, 0] rfl)
                  · refine lv_aload_n hx hb dX7_check_127 rfl (lv_at hl 0 rfl) ?_
                    refine s_get (v := .ref (ad 0)) fb7 cf hw 0 rfl 0 rfl q921 (hf2.2 0 rfl) dX7_check_128 ?_
                    refine lv_bipush (v := 6) hx hb dX7_check_131 (by decide) ?_
                    refine s_iald (j := 6) cf hw 1 rfl (rfl) (by decide) rfl dX7_check_133 ?_
                    refine lv_goto (tgt := 142) hx hb dX7_check_134 (by decide) ?_
                    refine lv_topr (y := ckN ft kd i) (by unfold ckN; rw [if_pos ((nI_eq (b := 0) (by omega) (by omega)).mp c124)]) ?_
                    refine lv_icmp_ne (tgt := 149) hx hb dX7_check_142 (by decide) (fun c142 => ?_) (fun c142 => ?_)
                    · refine lv_iconst (v := 0) hx hb dX7_check_149 (by decide) ?_
                      refine lv_istore (lv' := [(5, .int 0), (0, .ref a), (1, .int (nI xx)), (2, .int (nI wt)), (3, .int (nI (2 * m_))), (4, .int rt), (6, .int (nI i))]) hx hb dX7_check_150 hl (by decide) rfl (fun ls hl => ?_)
                      refine lv_iload hx hb dX7_check_152 (lv_at hl 5 rfl) ?_
                      refine lv_iload hx hb dX7_check_154 (lv_at hl 0 rfl) ?_
                      refine lv_if_eq (tgt := 163) hx hb dX7_check_156 (by decide) (fun c156 => ?_) (fun c156 => ?_)
                      · refine lv_iconst (v := 0) hx hb dX7_check_163 (by decide) ?_
                        refine lv_iadd hx hb dX7_check_164 ?_
                        refine lv_istore (lv' := [(4, .int (rt + 0)), (5, .int 0), (0, .ref a), (1, .int (nI xx)), (2, .int (nI wt)), (3, .int (nI (2 * m_))), (6, .int (nI i))]) hx hb dX7_check_165 hl (by decide) rfl (fun ls hl => ?_)
                        refine lv_iinc (v := nI (i + 1)) (lv' := [(6, .int (nI (i + 1))), (4, .int (rt + 0)), (5, .int 0), (0, .ref a), (1, .int (nI xx)), (2, .int (nI wt)), (3, .int (nI (2 * m_)))]) hx hb dX7_check_167 hl (k := 6) rfl (nI_1 i) (by decide) rfl (fun ls hl => ?_)
                        refine lv_goto (tgt := 85) hx hb dX7_check_170 (by decide) ?_
                        have hw : WD g A s H locs [bO a 7 (fs.set 38 (.int 0)), bI g (ad 0) 60 (nightsF ft ((i + 1 + 1) / 2) kd), bI g (ad 1) 60 kd, bI g (ad 3) 60 d, bI g (ad 5) 1344 cdf, bI g (ad 6) 14 kf, bI g (ad 7) 14 sf, bI g (ad 9) 96 u_18, bI g (ad 37) 60 ws] := by rw [show (i + 1 + 1) / 2 = i / 2 + 1 by omega]; exact hw
                        exact ih85 (i + 1) 0 (rt + 0) u_18 (by omega) (Or.inr ⟨rfl, by omega, by rw [hrt, Nat.add_sub_cancel]; exact Int32.add_zero _, by rw [← hck, show 2 * m_ - i = (2 * m_ - (i + 1)) + 1 by omega, Nat.add_sub_cancel]; exact ckL_h (fun z => c142 z.2), by omega⟩) (by omega) _ _ _ hw (lv_sub hl [3, 4, 5, 6, 1, 2, 0] rfl)
                      · exact absurd c156 (by decide)
                    · refine lv_iconst (v := 1) hx hb dX7_check_145 (by decide) ?_
                      refine lv_goto (tgt := 150) hx hb dX7_check_146 (by decide) ?_
                      refine lv_istore (lv' := [(5, .int 1), (0, .ref a), (1, .int (nI xx)), (2, .int (nI wt)), (3, .int (nI (2 * m_))), (4, .int rt), (6, .int (nI i))]) hx hb dX7_check_150 hl (by decide) rfl (fun ls hl => ?_)
                      refine lv_iload hx hb dX7_check_152 (lv_at hl 5 rfl) ?_
                      refine lv_iload hx hb dX7_check_154 (lv_at hl 0 rfl) ?_
                      refine lv_if_eq (tgt := 163) hx hb dX7_check_156 (by decide) (fun c156 => ?_) (fun c156 => ?_)
                      · exact absurd c156 (by decide)
                      · refine lv_iconst (v := 1) hx hb dX7_check_159 (by decide) ?_
                        refine lv_goto (tgt := 164) hx hb dX7_check_160 (by decide) ?_
                        refine lv_iadd hx hb dX7_check_164 ?_
                        refine lv_istore (lv' := [(4, .int (rt + 1)), (5, .int 1), (0, .ref a), (1, .int (nI xx)), (2, .int (nI wt)), (3, .int (nI (2 * m_))), (6, .int (nI i))]) hx hb dX7_check_165 hl (by decide) rfl (fun ls hl => ?_)
                        refine lv_iinc (v := nI (i + 1)) (lv' := [(6, .int (nI (i + 1))), (4, .int (rt + 1)), (5, .int 1), (0, .ref a), (1, .int (nI xx)), (2, .int (nI wt)), (3, .int (nI (2 * m_)))]) hx hb dX7_check_167 hl (k := 6) rfl (nI_1 i) (by decide) rfl (fun ls hl => ?_)
                        refine lv_goto (tgt := 85) hx hb dX7_check_170 (by decide) ?_
                        have hw : WD g A s H locs [bO a 7 (fs.set 38 (.int 0)), bI g (ad 0) 60 (nightsF ft ((i + 1 + 1) / 2) kd), bI g (ad 1) 60 kd, bI g (ad 3) 60 d, bI g (ad 5) 1344 cdf, bI g (ad 6) 14 kf, bI g (ad 7) 14 sf, bI g (ad 9) 96 u_18, bI g (ad 37) 60 ws] := by rw [show (i + 1 + 1) / 2 = i / 2 + 1 by omega]; exact hw
                        exact ih85 (i + 1) 1 (rt + 1) u_18 (by omega) (Or.inl ⟨rfl, by rw [hrt]; exact nI_1 i, by rw [← hck, show 2 * m_ - i = (2 * m_ - (i + 1)) + 1 by omega]; exact (ckL_s (fun z => z ⟨hiw, c142⟩)).symm⟩) (by omega) _ _ _ hw (lv_sub hl [3, 4, 5, 6, 1, 2, 0] rfl)
      exact L85 (2 * m_ + 1) 0 1 0 pl (by omega) (Or.inl ⟨rfl, rfl, rfl⟩) (by omega) _ _ _ hw (lv_sub hl [5, 6, 4, 3, 2, 1, 0] rfl)
    · refine lv_ldcw hx hb hown (hts _ q1372) dX7_check_32 ?_
      exact s_iret cf hr hlk (ov, pl) hw (by unfold R_check; rw [if_pos c19, if_pos c29]) (Nat.le_of_ble_eq_true rfl) (Nat.le_of_ble_eq_true rfl) dX7_check_35 hQ
  · have c19 := b01_z c19
    refine lv_ldc hx hb hown (hts _ q1049) dX7_check_22 ?_
    exact s_iret cf hr hlk (ov, pl) hw (by unfold R_check; rw [if_neg c19]) (Nat.le_of_ble_eq_true rfl) (Nat.le_of_ble_eq_true rfl) dX7_check_24 hQ
