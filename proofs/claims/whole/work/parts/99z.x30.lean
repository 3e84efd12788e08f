set_option maxRecDepth 100000 in
set_option maxHeartbeats 4000000 in
theorem x_copyOf {l : Launch} {g : GG} {ca_ : Nat} {f_ : DD} {L_ : Nat} (hL : L_ ≤ 95) : Ct l g yJ7_copyOf_59c91 cJ7_copyOf_59c91 3 (Option.some (Jvm.ClassFile.FieldType.array Jvm.ClassFile.FieldType.int)) 1 1 96 [.ref ca_, .int (nI L_)] [bI g ca_ 96 f_] (QQ g (fun r (u : Nat) => r = some u) (fun u => [bI g ca_ 96 f_ ++ bI g u L_ (va_cpy f_ (fun _ => 0) 0 0 L_)])) := by
  refine Ct.of (by decide) rfl ?_
  intro p e s m args below meth c A H locs ls Qf cf hr hlk hnm hQ hw hl
  have hx := cf.1
  have hb := cf.2.1
  have hml := cf.2.2.1
  have hown := cf.2.2.2.1
  have hts := cf.2.2.2.2
  have hw : WD g A s H locs [bI g ca_ 96 f_] := hw
  have hl : lv_has ls 3 [(0, .ref ca_), (1, .int (nI L_))] := hl
  have hne : ¬ nI L_ = 96 := fun z => by have := (nI_eq (show L_ < 2147483648 by omega) (show 96 < 2147483648 by decide)).mp z; omega
  have hbl : Nat.ble L_ 100000 = true := Nat.ble_eq.mpr (by omega)
  have hbl2 : Nat.ble L_ 1073741824 = true := Nat.ble_eq.mpr (by omega)
  refine lv_iload_n hx hb dJ7_copyOf_59c91_0 rfl (lv_at hl 1 rfl) ?_
  refine lv_aload_n hx hb dJ7_copyOf_59c91_1 rfl (lv_at hl 0 rfl) ?_
  refine s_alen (n32 := 96) cf hw 0 rfl 0 rfl rfl dJ7_copyOf_59c91_2 ?_
  refine lv_icmp_ne (tgt := 14) hx hb dJ7_copyOf_59c91_3 (by decide) (fun c3 => ?_) (fun c3 => ?_)
  · refine lv_iload_n hx hb dJ7_copyOf_59c91_14 rfl (lv_at hl 1 rfl) ?_
    refine s_newi (N := L_) cf hw rfl hbl (Nat.le_refl _) (show 0 + L_ ≤ 96 by omega) dJ7_copyOf_59c91_15 (fun nw_1 H hw => ?_)
    have hw : WD g A s H locs [bI g ca_ 96 f_, bI g nw_1 L_ (fun _ => 0)] := hw
    refine lv_astore_n (lv' := [(2, .ref nw_1), (0, .ref ca_), (1, .int (nI L_))]) hx hb dJ7_copyOf_59c91_17 rfl hl (by decide) rfl (fun ls hl => ?_)
    refine lv_aload_n hx hb dJ7_copyOf_59c91_18 rfl (lv_at hl 1 rfl) ?_
    refine lv_iconst (v := 0) hx hb dJ7_copyOf_59c91_19 (by decide) ?_
    refine lv_aload_n hx hb dJ7_copyOf_59c91_20 rfl (lv_at hl 0 rfl) ?_
    refine lv_iconst (v := 0) hx hb dJ7_copyOf_59c91_21 (by decide) ?_
    refine lv_aload_n hx hb dJ7_copyOf_59c91_22 rfl (lv_at hl 1 rfl) ?_
    refine s_alen (n32 := 96) cf hw 0 rfl 0 rfl rfl dJ7_copyOf_59c91_23 ?_
    refine lv_iload_n hx hb dJ7_copyOf_59c91_24 rfl (lv_at hl 2 rfl) ?_
    refine va_mmin hx hb (by rw [hml]; exact hl.1.symm) hown (hts _ q802) (hts _ ks_J9_min_7cf53) (hts _ km_J9_min_7cf53.1) (hts _ km_J9_min_7cf53.2.1) (Nat.le_of_ble_eq_true rfl) (Nat.le_of_ble_eq_true rfl) (Nat.le_of_ble_eq_true rfl) (show 0 + L_ ≤ 96 by omega) dJ7_copyOf_59c91_25 ?_
    refine lv_topr (y := nI L_) (if_pos (show nI L_ < nI 96 from (nI_ltI (by omega) (by decide)).mpr (by omega))) ?_
    refine s_copyi 0 0 L_ cf (by rw [hml]; exact hl.1.symm) hw q803 0 1 rfl rfl rfl hbl2 (rfl) (rfl) (rfl) (by omega) (by omega) rfl rfl dJ7_copyOf_59c91_28 (fun H locs hw => ?_)
    have hw : WD g A s H locs [bI g ca_ 96 f_, bI g nw_1 L_ (va_cpy f_ (fun _ => 0) 0 0 L_)] := hw
    refine lv_aload_n hx hb dJ7_copyOf_59c91_31 rfl (lv_at hl 0 rfl) ?_
    exact s_aretA (v := some nw_1) cf hr hlk nw_1 hw.mrg rfl (Nat.le_refl _) (by show 0 + L_ ≤ 96; omega) dJ7_copyOf_59c91_32 hQ
  · exact absurd c3 hne
