set_option maxRecDepth 100000 in
set_option maxHeartbeats 4000000 in
theorem x_copyOf {l : Launch} {g : GG} {ca_ : Nat} {f_ : DD} {L_ : Nat} (hL : L_ ≤ 95) : Ct l g yJ7_copyOf_59c91 cJ7_copyOf_59c91 3 (Option.some (Jvm.ClassFile.FieldType.array Jvm.ClassFile.FieldType.int)) 1 1 96 [.ref ca_, .int (nI L_)] [bI g ca_ 96 f_] (QQ g (fun r (u : Nat) => r = some u) (fun u => [bI g ca_ 96 f_ ++ bI g u L_ (va_cpy f_ (fun _ => 0) 0 0 L_)])) := by
  refine Ct.of (by decide) rfl ?_
  intro p e s m args below meth c A H locs ls Qf cf hr hlk hnm hQ hw hl
  have hx := cf.1
  have hb := cf.2.1
  have hml := cf.2.2.1
  have hown := cf.2.2.2.1
  have hts := cf.2.2.2.2
  have hw : WD g A s H locs [bI g ca_ 96 f_] := hw
  have hl : lv_has ls 3 [(0, .ref ca_), (1, .int (nI L_))] := hl
  have hne : ¬ nI L_ = 96 := fun z => by have := (nI_eq (show L_ < 2147483648 by omega) (show 96 < 2147483648 by decide)).mp z; omega
  have hbl : Nat.ble L_ 100000 = true := Nat.ble_eq.mpr (by omega)
  have hbl2 : Nat.ble L_ 1073741824 = true := Nat.ble_eq.mpr (by omega)
  refine lv_iload_n hx hb dJ7_copyOf_59c91_0 rfl (lv_at hl 1 rfl) ?_
  refine lv_aload_n hx hb dJ7_copyOf_59c91_1 rfl (lv_at hl 0 rfl) ?_
  refine s_alen (n32 := 96) cf hw 0 rfl 0 rfl rfl dJ7_copyOf_59c91_2 ?_
  refine lv_icmp_ne (tgt := 14) hx hb dJ7_copyOf_59c91_3 (by decide) (fun c3 => ?_) (fun c3 => ?_)
  · refine lv_iload_n hx hb dJ7_copyOf_59c91_14 rfl (lv_at hl 1 rfl) ?_
    refine s_newi (N := L_) cf hw rfl hbl (Nat.le_refl _) (show 0 + L_ ≤ 96 by omega) dJ7_copyOf_59c91_15 (fun nw_1 H hw => ?_)
    have hw : WD g A s H locs [bI g ca_ 96 f_, bI g nw_1 L_ (fun _ => 0)] := hw
    refine lv_astore_n (lv' := [(2, .ref nw_1), (0, .ref ca_), (1, .int (nI L_))]) hx hb dJ7_copyOf_59c91_17 rfl hl (by decide) rfl (fun ls hl => ?_)
    refine lv_aload_n hx hb dJ7_copyOf_59c91_18 rfl (lv_at hl 1 rfl) ?_
    refine lv_iconst (v := 0) hx hb dJ7_copyOf_59c91_19 (by decide) ?_
    refine lv_aload_n hx hb dJ7_copyOf_59c91_20 rfl (lv_at hl 0 rfl) ?_
    refine lv_iconst (v := 0) hx hb dJ7_copyOf_59c91_21 (by decide) ?_
    refine lv_aload_n hx hb dJ7_copyOf_59c91_22 rfl (lv_at hl 1 rfl) ?_
    refine s_alen (n32 := 96) cf hw 0 rfl 0 rfl rfl dJ7_copyOf_59c91_23 ?_
    refine lv_iload_n hx hb dJ7_copyOf_59c91_24 rfl (lv_at hl 2 rfl) ?_
    refine va_mmin hx hb (by rw [hml]; exact hl.1.symm) hown (hts _ q802) (hts _ ks_J9_min_7cf53) (hts _ km_J9_min_7cf53.1) (hts _ km_J9_min_7cf53.2.1) (Nat.le_of_ble_eq_true rfl) (Nat.le_of_ble_eq_true rfl) (Nat.le_of_ble_eq_true rfl) (show 0 + L_ ≤ 96 by omega) dJ7_copyOf_59c91_25 ?_
    refine lv_topr (y := nI L_) (if_pos (show nI L_ < nI 96 from (nI_ltI (by omega) (by decide)).mpr (by omega))) ?_
    refine s_copyi 0 0 L_ cf (by rw [hml]; exact hl.1.symm) hw q803 0 1 rfl rfl rfl hbl2 (rfl) (rfl) (rfl) (by omega) (by omega) rfl rfl dJ7_copyOf_59c91_28 (fun H locs hw => ?_)
    have hw : WD g A s H locs [bI g ca_ 96 f_, bI g nw_1 L_ (va_cpy f_ (fun _ => 0) 0 0 L_)] := hw
    refine lv_aload_n hx hb dJ7_copyOf_59c91_31 rfl (lv_at hl 0 rfl) ?_
    exact s_aretA (v := some nw_1) cf hr hlk nw_1 hw.mrg rfl (Nat.le_refl _) (by show 0 + L_ ≤ 96; omega) dJ7_copyOf_59c91_32 hQ
  · exact absurd c3 hne
set_option maxRecDepth 100000 in
set_option maxHeartbeats 4000000 in
theorem x_asText {l : Launch} {g : GG} {ra : Nat} {rd : Nat → Nat} {o_ b_ n_ p_ k_ : Int32} {f_ : DD} {L_ : Nat} (hL : L_ ≤ 95) : Ct l g yX1_asText cX1_asText 1 (Option.some (Jvm.ClassFile.FieldType.object "CoalHoles$Text")) 2 2 99 [.ref ra] [bO ra 1 (rF rd (nI L_) o_ b_ n_ p_ k_), bI g (rd 1) 96 f_] (QQ g (fun r (u : Nat × Nat) => r = some u.1) (fun u => [bO ra 1 (rF rd (nI L_) o_ b_ n_ p_ k_), bI g (rd 1) 96 f_ ++ bI g u.2 L_ (va_cpy f_ (fun _ => 0) 0 0 L_) ++ bO u.1 5 ([.int k_, .int p_, .ref u.2])])) := by
  refine Ct.of (by decide) rfl ?_
  intro p e s m args below meth c A H locs ls Qf cf hr hlk hnm hQ hw hl
  have hx := cf.1
  have hb := cf.2.1
  have hml := cf.2.2.1
  have hown := cf.2.2.2.1
  have hts := cf.2.2.2.2
  have hw : WD g A s H locs [bO ra 1 (rF rd (nI L_) o_ b_ n_ p_ k_), bI g (rd 1) 96 f_] := hw
  have hl : lv_has ls 1 [(0, .ref ra)] := hl
  refine s_new (fs := [.int 0, .int 0, .null]) fb5 cf hw q796 q389 q88 (dfl5) (Nat.le_of_ble_eq_true rfl) (Nat.le_of_ble_eq_true rfl) dX1_asText_0 (fun nw_1 H hw => ?_)
  have hw : WD g A s H locs [bO ra 1 (rF rd (nI L_) o_ b_ n_ p_ k_), bI g (rd 1) 96 f_, bO nw_1 5 ([.int 0, .int 0, .null])] := hw
  refine lv_dup hx hb dX1_asText_3 rfl ?_
  refine lv_aload_n hx hb dX1_asText_4 rfl (lv_at hl 0 rfl) ?_
  refine s_get (v := .int k_) fb1 cf hw 0 rfl 7 rfl q230 rfl dX1_asText_5 ?_
  refine lv_aload_n hx hb dX1_asText_8 rfl (lv_at hl 0 rfl) ?_
  refine s_get (v := .int p_) fb1 cf hw 0 rfl 6 rfl q229 rfl dX1_asText_9 ?_
  refine lv_aload_n hx hb dX1_asText_12 rfl (lv_at hl 0 rfl) ?_
  refine s_get (v := .ref (rd 1)) fb1 cf hw 0 rfl 0 rfl q223 rfl dX1_asText_13 ?_
  refine lv_aload_n hx hb dX1_asText_16 rfl (lv_at hl 0 rfl) ?_
  refine s_get (v := .int (nI L_)) fb1 cf hw 0 rfl 2 rfl q225 rfl dX1_asText_17 ?_
  refine s_callq (runS cf (x_copyOf (ca_ := (rd 1)) (f_ := f_) (L_ := L_) hL) hw [1] (by decide) rfl km_J7_copyOf_59c91 ks_J7_copyOf_59c91 q797 rfl rfl hl.1 rfl dX1_asText_20) hw [1] (by decide) rfl (fun _ => rfl) (fun r_4 u_2 H locs hp_3 hw => ?_)
  have hw : WD g A s H locs [bO ra 1 (rF rd (nI L_) o_ b_ n_ p_ k_), bI g (rd 1) 96 f_ ++ bI g u_2 L_ (va_cpy f_ (fun _ => 0) 0 0 L_), bO nw_1 5 ([.int 0, .int 0, .null])] := hw
  have hw : WD g A s H locs [bO ra 1 (rF rd (nI L_) o_ b_ n_ p_ k_), bI g (rd 1) 96 f_, bI g u_2 L_ (va_cpy f_ (fun _ => 0) 0 0 L_), bO nw_1 5 ([.int 0, .int 0, .null])] := hw.re rfl
  subst hp_3
  refine s_callv (runIN cf (i_text (a_ := nw_1) (ca_ := u_2) k_ p_) hw [3] (by decide) rfl km_X5_init rfl ki_X5_init q804 rfl rfl hl.1 rfl dX1_asText_23) hw [3] (by decide) rfl (fun _ => rfl) (fun u_5 H locs hp_6 hw => ?_)
  have hw : WD g A s H locs [bO ra 1 (rF rd (nI L_) o_ b_ n_ p_ k_), bI g (rd 1) 96 f_, bI g u_2 L_ (va_cpy f_ (fun _ => 0) 0 0 L_), bO nw_1 5 ([.int k_, .int p_, .ref u_2])] := hw
  exact s_aret (v := some nw_1) cf hr hlk (nw_1, u_2) (hw.re rfl) rfl (Nat.le_of_ble_eq_true rfl) (Nat.le_of_ble_eq_true rfl) dX1_asText_26 hQ
