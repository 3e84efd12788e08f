set_option maxRecDepth 100000 in
set_option maxHeartbeats 4000000 in
theorem x_at {l : Launch} {g : GG} {lad : Nat → Nat} {tr : Nat → Option Nat} (c_ : Int32) : Ct l g yX0_at cX0_at 2 (Option.some (Jvm.ClassFile.FieldType.object "CoalHoles$Text")) 0 0 0 [.ref (lad 0), .int c_] [bO (lad 0) 0 ([.ref (lad 1), .ref (lad 2), .ref (lad 3)]), bR g 4 (lad 1) 14 tr] (QQ g (fun r (_ : Unit) => r = atF tr c_) (fun _ => [bO (lad 0) 0 [.ref (lad 1), .ref (lad 2), .ref (lad 3)], bR g 4 (lad 1) 14 tr])) := by
  refine Ct.of (by decide) rfl ?_
  intro p e s m args below meth c A H locs ls Qf cf hr hlk hnm hQ hw hl
  have hx := cf.1
  have hb := cf.2.1
  have hml := cf.2.2.1
  have hown := cf.2.2.2.1
  have hts := cf.2.2.2.2
  have hw : WD g A s H locs [bO (lad 0) 0 ([.ref (lad 1), .ref (lad 2), .ref (lad 3)]), bR g 4 (lad 1) 14 tr] := hw
  have hl : lv_has ls 2 [(0, .ref (lad 0)), (1, .int c_)] := hl
  refine lv_iload_n hx hb dX0_at_0 rfl (lv_at hl 1 rfl) ?_
  refine lv_if_lt (tgt := 22) hx hb dX0_at_1 (by decide) (fun c1 => ?_) (fun c1 => ?_)
  · refine lv_null hx hb dX0_at_22 ?_
    exact s_aret (v := none) cf hr hlk () hw (by unfold atF; rw [if_neg (by grind)]) (Nat.le_of_ble_eq_true rfl) (Nat.le_of_ble_eq_true rfl) dX0_at_23 hQ
  · refine lv_iload_n hx hb dX0_at_4 rfl (lv_at hl 1 rfl) ?_
    refine lv_aload_n hx hb dX0_at_5 rfl (lv_at hl 0 rfl) ?_
    refine s_get (v := .ref (lad 1)) fb0 cf hw 0 rfl 0 rfl q123 rfl dX0_at_6 ?_
    refine s_alen (n32 := 14) cf hw 4 rfl 1 rfl rfl dX0_at_9 ?_
    refine lv_icmp_ge (tgt := 22) hx hb dX0_at_10 (by decide) (fun c10 => ?_) (fun c10 => ?_)
    · refine lv_null hx hb dX0_at_22 ?_
      exact s_aret (v := none) cf hr hlk () hw (by unfold atF; rw [if_neg (by grind)]) (Nat.le_of_ble_eq_true rfl) (Nat.le_of_ble_eq_true rfl) dX0_at_23 hQ
    · obtain ⟨j, hj, hjx⟩ := rng_nat (x := c_) (m := 13) (by omega) (by grind) (show c_ ≤ 13 by have := Int32.not_le.mp c10; grind)
      subst hjx
      refine lv_aload_n hx hb dX0_at_13 rfl (lv_at hl 0 rfl) ?_
      refine s_get (v := .ref (lad 1)) fb0 cf hw 0 rfl 0 rfl q123 rfl dX0_at_14 ?_
      refine lv_iload_n hx hb dX0_at_17 rfl (lv_at hl 1 rfl) ?_
      refine s_aald (j := j) cf hw 4 rfl 1 rfl (rfl) (by omega) rfl dX0_at_18 ?_
      refine lv_goto (tgt := 23) hx hb dX0_at_19 (by decide) ?_
      exact s_aret (v := (tr j)) cf hr hlk () hw (by unfold atF; rw [if_pos (by grind), nI_clamp (by omega)]) (Nat.le_of_ble_eq_true rfl) (Nat.le_of_ble_eq_true rfl) dX0_at_23 hQ
set_option maxRecDepth 100000 in
set_option maxHeartbeats 4000000 in
theorem x_named {l : Launch} {g : GG} {x : Nat} {nm : DD} (k : Int32) : Ct l g yX5_named cX5_named 2 (Option.some Jvm.ClassFile.FieldType.int) 0 0 0 [.ref x, .int k] [bI g x 6 nm] (QI g (fun r (_ : Unit) => r = namedF nm k) (fun _ => [bI g x 6 nm])) := by
  refine Ct.of (by decide) rfl ?_
  intro p e s m args below meth c A H locs ls Qf cf hr hlk hnm hQ hw hl
  have hx := cf.1
  have hb := cf.2.1
  have hml := cf.2.2.1
  have hown := cf.2.2.2.1
  have hts := cf.2.2.2.2
  have hw : WD g A s H locs [bI g x 6 nm] := hw
  have hl : lv_has ls 2 [(0, .ref x), (1, .int k)] := hl
  refine lv_iload_n hx hb dX5_named_0 rfl (lv_at hl 1 rfl) ?_
  refine lv_if_lt (tgt := 16) hx hb dX5_named_1 (by decide) (fun c1 => ?_) (fun c1 => ?_)
  · refine lv_iconst (v := 0) hx hb dX5_named_16 (by decide) ?_
    exact s_iret cf hr hlk () hw (by unfold namedF; rw [if_neg (by grind)]) (Nat.le_of_ble_eq_true rfl) (Nat.le_of_ble_eq_true rfl) dX5_named_17 hQ
  · refine lv_iload_n hx hb dX5_named_4 rfl (lv_at hl 1 rfl) ?_
    refine lv_aload_n hx hb dX5_named_5 rfl (lv_at hl 0 rfl) ?_
    refine s_alen (n32 := 6) cf hw 0 rfl 0 rfl rfl dX5_named_6 ?_
    refine lv_icmp_ge (tgt := 16) hx hb dX5_named_7 (by decide) (fun c7 => ?_) (fun c7 => ?_)
    · refine lv_iconst (v := 0) hx hb dX5_named_16 (by decide) ?_
      exact s_iret cf hr hlk () hw (by unfold namedF; rw [if_neg (by grind)]) (Nat.le_of_ble_eq_true rfl) (Nat.le_of_ble_eq_true rfl) dX5_named_17 hQ
    · obtain ⟨j, hj, hjx⟩ := rng_nat (x := k) (m := 5) (by omega) (by grind) (show k ≤ 5 by have := Int32.not_le.mp c7; grind)
      subst hjx
      refine lv_aload_n hx hb dX5_named_10 rfl (lv_at hl 0 rfl) ?_
      refine lv_iload_n hx hb dX5_named_11 rfl (lv_at hl 1 rfl) ?_
      refine s_iald (j := j) cf hw 0 rfl (rfl) (by omega) rfl dX5_named_12 ?_
      refine lv_goto (tgt := 17) hx hb dX5_named_13 (by decide) ?_
      exact s_iret cf hr hlk () hw (by unfold namedF; rw [if_pos (by grind), nI_clamp (by omega)]) (Nat.le_of_ble_eq_true rfl) (Nat.le_of_ble_eq_true rfl) dX5_named_17 hQ
set_option maxRecDepth 100000 in
set_option maxHeartbeats 4000000 in
theorem x_joined {l : Launch} {g : GG} (sg v w : Int32) : Ct l g yX5_joined cX5_joined 3 (Option.some Jvm.ClassFile.FieldType.int) 0 0 0 [.int sg, .int v, .int w] [] (QI g (fun r (_ : Unit) => r = joinF sg v w) (fun _ => [])) := by
  refine Ct.of (by decide) rfl ?_
  intro p e s m args below meth c A H locs ls Qf cf hr hlk hnm hQ hw hl
  have hx := cf.1
  have hb := cf.2.1
  have hml := cf.2.2.1
  have hown := cf.2.2.2.1
  have hts := cf.2.2.2.2
  have hw : WD g A s H locs [] := hw
  have hl : lv_has ls 3 [(0, .int sg), (1, .int v), (2, .int w)] := hl
  refine lv_iload_n hx hb dX5_joined_0 rfl (lv_at hl 0 rfl) ?_
  by_cases t1_38 : sg = 38
  · refine lv_lookup (tgt := 98) (off := 97) hx hb dX5_joined_1 (by decide) (by rw [t1_38]; decide) (by decide) ?_
    refine lv_iload_n hx hb dX5_joined_98 rfl (lv_at hl 1 rfl) ?_
    refine lv_if_eq (tgt := 110) hx hb dX5_joined_99 (by decide) (fun c99 => ?_) (fun c99 => ?_)
    · refine lv_iconst (v := 0) hx hb dX5_joined_110 (by decide) ?_
      exact s_iret cf hr hlk () hw (by unfold joinF; grind) (Nat.le_of_ble_eq_true rfl) (Nat.le_of_ble_eq_true rfl) dX5_joined_111 hQ
    · refine lv_iload_n hx hb dX5_joined_102 rfl (lv_at hl 2 rfl) ?_
      refine lv_if_eq (tgt := 110) hx hb dX5_joined_103 (by decide) (fun c103 => ?_) (fun c103 => ?_)
      · refine lv_iconst (v := 0) hx hb dX5_joined_110 (by decide) ?_
        exact s_iret cf hr hlk () hw (by unfold joinF; grind) (Nat.le_of_ble_eq_true rfl) (Nat.le_of_ble_eq_true rfl) dX5_joined_111 hQ
      · refine lv_iconst (v := 1) hx hb dX5_joined_106 (by decide) ?_
        refine lv_goto (tgt := 111) hx hb dX5_joined_107 (by decide) ?_
        exact s_iret cf hr hlk () hw (by unfold joinF; grind) (Nat.le_of_ble_eq_true rfl) (Nat.le_of_ble_eq_true rfl) dX5_joined_111 hQ
  by_cases t1_42 : sg = 42
  · refine lv_lookup (tgt := 153) (off := 152) hx hb dX5_joined_1 (by decide) (by rw [t1_42]; decide) (by decide) ?_
    refine lv_iload_n hx hb dX5_joined_153 rfl (lv_at hl 1 rfl) ?_
    refine lv_iload_n hx hb dX5_joined_154 rfl (lv_at hl 2 rfl) ?_
    refine lv_imul hx hb dX5_joined_155 ?_
    exact s_iret cf hr hlk () hw (by unfold joinF; grind) (Nat.le_of_ble_eq_true rfl) (Nat.le_of_ble_eq_true rfl) dX5_joined_156 hQ
  by_cases t1_43 : sg = 43
  · refine lv_lookup (tgt := 145) (off := 144) hx hb dX5_joined_1 (by decide) (by rw [t1_43]; decide) (by decide) ?_
    refine lv_iload_n hx hb dX5_joined_145 rfl (lv_at hl 1 rfl) ?_
    refine lv_iload_n hx hb dX5_joined_146 rfl (lv_at hl 2 rfl) ?_
    refine lv_iadd hx hb dX5_joined_147 ?_
    exact s_iret cf hr hlk () hw (by unfold joinF; grind) (Nat.le_of_ble_eq_true rfl) (Nat.le_of_ble_eq_true rfl) dX5_joined_148 hQ
  by_cases t1_45 : sg = 45
  · refine lv_lookup (tgt := 149) (off := 148) hx hb dX5_joined_1 (by decide) (by rw [t1_45]; decide) (by decide) ?_
    refine lv_iload_n hx hb dX5_joined_149 rfl (lv_at hl 1 rfl) ?_
    refine lv_iload_n hx hb dX5_joined_150 rfl (lv_at hl 2 rfl) ?_
    refine lv_isub hx hb dX5_joined_151 ?_
    exact s_iret cf hr hlk () hw (by unfold joinF; grind) (Nat.le_of_ble_eq_true rfl) (Nat.le_of_ble_eq_true rfl) dX5_joined_152 hQ
  by_cases t1_47 : sg = 47
  · refine lv_lookup (tgt := 157) (off := 156) hx hb dX5_joined_1 (by decide) (by rw [t1_47]; decide) (by decide) ?_
    refine lv_iload_n hx hb dX5_joined_157 rfl (lv_at hl 2 rfl) ?_
    refine lv_if_ne (tgt := 165) hx hb dX5_joined_158 (by decide) (fun c158 => ?_) (fun c158 => ?_)
    · refine lv_iload_n hx hb dX5_joined_165 rfl (lv_at hl 1 rfl) ?_
      refine lv_iload_n hx hb dX5_joined_166 rfl (lv_at hl 2 rfl) ?_
      refine lv_idiv hx hb dX5_joined_167 c158 ?_
      exact s_iret cf hr hlk () hw (by unfold joinF; grind) (Nat.le_of_ble_eq_true rfl) (Nat.le_of_ble_eq_true rfl) dX5_joined_168 hQ
    · refine lv_iconst (v := 0) hx hb dX5_joined_161 (by decide) ?_
      refine lv_goto (tgt := 168) hx hb dX5_joined_162 (by decide) ?_
      exact s_iret cf hr hlk () hw (by unfold joinF; grind) (Nat.le_of_ble_eq_true rfl) (Nat.le_of_ble_eq_true rfl) dX5_joined_168 hQ
  by_cases t1_60 : sg = 60
  · refine lv_lookup (tgt := 112) (off := 111) hx hb dX5_joined_1 (by decide) (by rw [t1_60]; decide) (by decide) ?_
    refine lv_iload_n hx hb dX5_joined_112 rfl (lv_at hl 1 rfl) ?_
    refine lv_iload_n hx hb dX5_joined_113 rfl (lv_at hl 2 rfl) ?_
    refine lv_icmp_ge (tgt := 121) hx hb dX5_joined_114 (by decide) (fun c114 => ?_) (fun c114 => ?_)
    · refine lv_iconst (v := 0) hx hb dX5_joined_121 (by decide) ?_
      exact s_iret cf hr hlk () hw (by unfold joinF; grind) (Nat.le_of_ble_eq_true rfl) (Nat.le_of_ble_eq_true rfl) dX5_joined_122 hQ
    · refine lv_iconst (v := 1) hx hb dX5_joined_117 (by decide) ?_
      refine lv_goto (tgt := 122) hx hb dX5_joined_118 (by decide) ?_
      exact s_iret cf hr hlk () hw (by unfold joinF; grind) (Nat.le_of_ble_eq_true rfl) (Nat.le_of_ble_eq_true rfl) dX5_joined_122 hQ
  by_cases t1_61 : sg = 61
  · refine lv_lookup (tgt := 123) (off := 122) hx hb dX5_joined_1 (by decide) (by rw [t1_61]; decide) (by decide) ?_
    refine lv_iload_n hx hb dX5_joined_123 rfl (lv_at hl 1 rfl) ?_
    refine lv_iload_n hx hb dX5_joined_124 rfl (lv_at hl 2 rfl) ?_
    refine lv_icmp_ne (tgt := 132) hx hb dX5_joined_125 (by decide) (fun c125 => ?_) (fun c125 => ?_)
    · refine lv_iconst (v := 0) hx hb dX5_joined_132 (by decide) ?_
      exact s_iret cf hr hlk () hw (by unfold joinF; grind) (Nat.le_of_ble_eq_true rfl) (Nat.le_of_ble_eq_true rfl) dX5_joined_133 hQ
    · refine lv_iconst (v := 1) hx hb dX5_joined_128 (by decide) ?_
      refine lv_goto (tgt := 133) hx hb dX5_joined_129 (by decide) ?_
      exact s_iret cf hr hlk () hw (by unfold joinF; grind) (Nat.le_of_ble_eq_true rfl) (Nat.le_of_ble_eq_true rfl) dX5_joined_133 hQ
  by_cases t1_62 : sg = 62
  · refine lv_lookup (tgt := 134) (off := 133) hx hb dX5_joined_1 (by decide) (by rw [t1_62]; decide) (by decide) ?_
    refine lv_iload_n hx hb dX5_joined_134 rfl (lv_at hl 1 rfl) ?_
    refine lv_iload_n hx hb dX5_joined_135 rfl (lv_at hl 2 rfl) ?_
    refine lv_icmp_le (tgt := 143) hx hb dX5_joined_136 (by decide) (fun c136 => ?_) (fun c136 => ?_)
    · refine lv_iconst (v := 0) hx hb dX5_joined_143 (by decide) ?_
      exact s_iret cf hr hlk () hw (by unfold joinF; grind) (Nat.le_of_ble_eq_true rfl) (Nat.le_of_ble_eq_true rfl) dX5_joined_144 hQ
    · refine lv_iconst (v := 1) hx hb dX5_joined_139 (by decide) ?_
      refine lv_goto (tgt := 144) hx hb dX5_joined_140 (by decide) ?_
      exact s_iret cf hr hlk () hw (by unfold joinF; grind) (Nat.le_of_ble_eq_true rfl) (Nat.le_of_ble_eq_true rfl) dX5_joined_144 hQ
  by_cases t1_124 : sg = 124
  · refine lv_lookup (tgt := 84) (off := 83) hx hb dX5_joined_1 (by decide) (by rw [t1_124]; decide) (by decide) ?_
    refine lv_iload_n hx hb dX5_joined_84 rfl (lv_at hl 1 rfl) ?_
    refine lv_if_ne (tgt := 92) hx hb dX5_joined_85 (by decide) (fun c85 => ?_) (fun c85 => ?_)
    · refine lv_iconst (v := 1) hx hb dX5_joined_92 (by decide) ?_
      refine lv_goto (tgt := 97) hx hb dX5_joined_93 (by decide) ?_
      exact s_iret cf hr hlk () hw (by unfold joinF; grind) (Nat.le_of_ble_eq_true rfl) (Nat.le_of_ble_eq_true rfl) dX5_joined_97 hQ
    · refine lv_iload_n hx hb dX5_joined_88 rfl (lv_at hl 2 rfl) ?_
      refine lv_if_eq (tgt := 96) hx hb dX5_joined_89 (by decide) (fun c89 => ?_) (fun c89 => ?_)
      · refine lv_iconst (v := 0) hx hb dX5_joined_96 (by decide) ?_
        exact s_iret cf hr hlk () hw (by unfold joinF; grind) (Nat.le_of_ble_eq_true rfl) (Nat.le_of_ble_eq_true rfl) dX5_joined_97 hQ
      · refine lv_iconst (v := 1) hx hb dX5_joined_92 (by decide) ?_
        refine lv_goto (tgt := 97) hx hb dX5_joined_93 (by decide) ?_
        exact s_iret cf hr hlk () hw (by unfold joinF; grind) (Nat.le_of_ble_eq_true rfl) (Nat.le_of_ble_eq_true rfl) dX5_joined_97 hQ
  refine lv_lookup (tgt := 169) (off := 168) hx hb dX5_joined_1 (by decide) (by rw [show (_ : Array (Int × Int)).toList = [(38, 97), (42, 152), (43, 144), (45, 148), (47, 156), (60, 111), (61, 122), (62, 133), (124, 83)] from rfl, lv_osw (a := 38) t1_38 rfl, lv_osw (a := 42) t1_42 rfl, lv_osw (a := 43) t1_43 rfl, lv_osw (a := 45) t1_45 rfl, lv_osw (a := 47) t1_47 rfl, lv_osw (a := 60) t1_60 rfl, lv_osw (a := 61) t1_61 rfl, lv_osw (a := 62) t1_62 rfl, lv_osw (a := 124) t1_124 rfl]; rfl) (by decide) ?_
  refine lv_iconst (v := 0) hx hb dX5_joined_169 (by decide) ?_
  exact s_iret cf hr hlk () hw (by unfold joinF; grind) (Nat.le_of_ble_eq_true rfl) (Nat.le_of_ble_eq_true rfl) dX5_joined_170 hQ
set_option maxRecDepth 100000 in
set_option maxHeartbeats 4000000 in
theorem x_value {l : Launch} {g : GG} {xa ca na sa : Nat} {ky pc_ : Int32} {len : Nat} {tc nm st_ : DD} (hok : okC len tc) (hsg : okSg len tc) : Ct l g yX5_value cX5_value 6 (Option.some Jvm.ClassFile.FieldType.int) 1 0 0 [.ref xa, .ref na, .ref sa] [bO xa 5 ([.int ky, .int pc_, .ref ca]), bI g ca len tc, bI g na 6 nm, bI g sa 96 st_] (QI g (fun r (_ : DD) => r = evalF (nmX nm) len tc) (fun u => [bO xa 5 [.int ky, .int pc_, .ref ca], bI g ca len tc, bI g na 6 nm, bI g sa 96 u])) := by
  refine Ct.of (by decide) rfl ?_
  intro p e s m args below meth c A H locs ls Qf cf hr hlk hnm hQ hw hl
  have hx := cf.1
  have hb := cf.2.1
  have hml := cf.2.2.1
  have hown := cf.2.2.2.1
  have hts := cf.2.2.2.2
  have hw : WD g A s H locs [bO xa 5 ([.int ky, .int pc_, .ref ca]), bI g ca len tc, bI g na 6 nm, bI g sa 96 st_] := hw
  have hl : lv_has ls 6 [(0, .ref xa), (1, .ref na), (2, .ref sa)] := hl
  have hlen := hok.1
  have hlb : Nat.ble len 1073741824 = true := Nat.ble_eq_true_of_le (by omega)
  refine lv_iconst (v := 0) hx hb dX5_value_0 (by decide) ?_
  refine lv_istore_n (lv' := [(3, .int 0), (0, .ref xa), (1, .ref na), (2, .ref sa)]) hx hb dX5_value_1 rfl hl (by decide) rfl (fun ls hl => ?_)
  refine lv_iconst (v := 0) hx hb dX5_value_2 (by decide) ?_
  refine lv_istore (lv' := [(4, .int 0), (3, .int 0), (0, .ref xa), (1, .ref na), (2, .ref sa)]) hx hb dX5_value_3 hl (by decide) rfl (fun ls hl => ?_)
  have L5 : ∀ (fu : Nat) (i : Nat) (st_ : DD), (i ≤ len) → (len < i + fu) → (PR st_ (evst (nmX nm) tc i)) → ∀ (H : Heap) (locs : List Loc) (ls : Array Slot), WD g A s H locs [bO xa 5 ([.int ky, .int pc_, .ref ca]), bI g ca len tc, bI g na 6 nm, bI g sa 96 st_] → lv_has ls 6 [(0, .ref xa), (1, .ref na), (2, .ref sa), (3, .int (nI (dpt tc i))), (4, .int (nI i))] → W p l e (rmx 1 0 0) s m args below meth c H locs 0 0 Qf (F0 m 5 ls []) := by
    intro fu
    induction fu with
    | zero => intro i st_ hi hfu hpr; exfalso; omega
    | succ fu ih5 =>
      intro i st_ hi hfu hpr H locs ls hw hl
      refine lv_iload hx hb dX5_value_5 (lv_at hl 4 rfl) ?_
      refine lv_aload_n hx hb dX5_value_7 rfl (lv_at hl 0 rfl) ?_
      refine s_get (v := .ref ca) fb5 cf hw 0 rfl 2 rfl q812 rfl dX5_value_8 ?_
      refine s_alen (n32 := nI len) cf hw 0 rfl 1 rfl rfl dX5_value_11 ?_
      refine lv_icmp_ge (tgt := 139) hx hb dX5_value_12 (by decide) (fun c12 => ?_) (fun c12 => ?_)
      · have hi2 : i = len := by have := nI_le_of (by omega) c12 (by omega); omega
        refine lv_iload_n hx hb dX5_value_139 rfl (lv_at hl 3 rfl) ?_
        have hd1 : dpt tc i = 0 + 1 := by rw [hi2]; exact hok.2.2.2
        refine lv_topr (y := 1) (by rw [hd1]; rfl) ?_
        refine lv_if_le (tgt := 151) hx hb dX5_value_140 (by decide) (fun c140 => ?_) (fun c140 => ?_)
        · exact absurd c140 (by decide)
        · have hl1 : lv_has ls 6 [(0, .ref xa), (1, .ref na), (2, .ref sa), (3, .int 1), (4, .int (nI i))] := by rw [← show nI (dpt tc i) = 1 by rw [hd1]; rfl]; exact hl
          have hl := hl1
          refine lv_aload_n hx hb dX5_value_143 rfl (lv_at hl 2 rfl) ?_
          refine lv_iload_n hx hb dX5_value_144 rfl (lv_at hl 3 rfl) ?_
          refine lv_iconst (v := 1) hx hb dX5_value_145 (by decide) ?_
          refine lv_isub hx hb dX5_value_146 ?_
          refine s_iald (j := 0) cf hw 3 rfl (rfl) (by omega) rfl dX5_value_147 ?_
          refine lv_goto (tgt := 152) hx hb dX5_value_148 (by decide) ?_
          exact s_iret cf hr hlk st_ hw (by have hl1 := evst_len (nm := (nmX nm)) hok i (by omega); rw [hd1] at hl1; obtain ⟨v0, r0, hst⟩ := List.exists_cons_of_length_eq_add_one hl1; unfold evalF; rw [← hi2, hst]; rw [hst] at hpr hl1; simp at hl1; subst hl1; exact hpr.top) (Nat.le_of_ble_eq_true rfl) (Nat.le_of_ble_eq_true rfl) dX5_value_152 hQ
      · have hlt : i < len := nI_lt_of (by omega) c12 (by omega)
        have hdl := dpt_le (cf := tc) i
        have hln := evst_len (nm := (nmX nm)) hok i hi
        refine lv_aload_n hx hb dX5_value_15 rfl (lv_at hl 0 rfl) ?_
        refine s_get (v := .ref ca) fb5 cf hw 0 rfl 2 rfl q812 rfl dX5_value_16 ?_
        refine lv_iload hx hb dX5_value_19 (lv_at hl 4 rfl) ?_
        refine s_iald (j := i) cf hw 1 rfl (rfl) (by omega) hlb dX5_value_21 ?_
        refine lv_istore (lv' := [(5, .int (tc i)), (0, .ref xa), (1, .ref na), (2, .ref sa), (3, .int (nI (dpt tc i))), (4, .int (nI i))]) hx hb dX5_value_22 hl (by decide) rfl (fun ls hl => ?_)
        refine lv_iload hx hb dX5_value_24 (lv_at hl 0 rfl) ?_
        refine lv_sipush (v := 20000) hx hb dX5_value_26 (by decide) ?_
        refine lv_icmp_ge (tgt := 70) hx hb dX5_value_29 (by decide) (fun c29 => ?_) (fun c29 => ?_)
        · refine lv_iload hx hb dX5_value_70 (lv_at hl 0 rfl) ?_
          refine lv_sipush (v := 20033) hx hb dX5_value_72 (by decide) ?_
          refine lv_icmp_ne (tgt := 103) hx hb dX5_value_75 (by decide) (fun c75 => ?_) (fun c75 => ?_)
          · refine lv_iload_n hx hb dX5_value_103 rfl (lv_at hl 4 rfl) ?_
            refine lv_iconst (v := 1) hx hb dX5_value_104 (by decide) ?_
            refine lv_icmp_le (tgt := 133) hx hb dX5_value_105 (by decide) (fun c105 => ?_) (fun c105 => ?_)
            · exact absurd (nI_le_of (n := dpt tc i) (i := 1) (by omega) c105 (by omega)) (by have := hok.2.2.1 i hlt (by grind) (by grind); omega)
            · have hd2 := hok.2.2.1 i hlt (by grind) (by grind)
              have hsgi := hsg i hlt (by grind) (by grind)
              obtain ⟨k, hk⟩ : ∃ k, dpt tc i = k + 1 + 1 := ⟨dpt tc i - 2, by omega⟩
              obtain ⟨v1, v0, r0, hst⟩ : ∃ v1 v0 r0, evst (nmX nm) tc i = v1 :: v0 :: r0 := by obtain ⟨v1, r1, h1⟩ := List.exists_cons_of_length_eq_add_one (hln.trans hk); obtain ⟨v0, r0, h0⟩ := List.exists_cons_of_length_eq_add_one (n := k) (l := r1) (by rw [h1] at hln; simp at hln; omega); exact ⟨v1, v0, r0, by rw [h1, h0]⟩
              have hrl : r0.length = k := by rw [hst] at hln; simp at hln; omega
              rw [hst] at hpr
              have hv1 : st_ (k + 1) = v1 := by have := hpr.top; simp [hrl] at this; exact this
              have hv0 : st_ k = v0 := by rw [← hrl]; exact hpr.pop.top
              refine lv_iinc (v := nI (k + 1)) (lv' := [(3, .int (nI (k + 1))), (5, .int (tc i)), (0, .ref xa), (1, .ref na), (2, .ref sa), (4, .int (nI i))]) hx hb dX5_value_108 hl (k := 4) rfl (by rw [hk]; exact pk_m1 (k + 1)) (by decide) rfl (fun ls hl => ?_)
              refine lv_aload_n hx hb dX5_value_111 rfl (lv_at hl 4 rfl) ?_
              refine lv_iload_n hx hb dX5_value_112 rfl (lv_at hl 0 rfl) ?_
              refine lv_iconst (v := 1) hx hb dX5_value_113 (by decide) ?_
              refine lv_isub hx hb dX5_value_114 ?_
              refine lv_iload hx hb dX5_value_115 (lv_at hl 1 rfl) ?_
              refine lv_sipush (v := 20000) hx hb dX5_value_117 (by decide) ?_
              refine lv_isub hx hb dX5_value_120 ?_
              refine lv_aload_n hx hb dX5_value_121 rfl (lv_at hl 4 rfl) ?_
              refine lv_iload_n hx hb dX5_value_122 rfl (lv_at hl 0 rfl) ?_
              refine lv_iconst (v := 1) hx hb dX5_value_123 (by decide) ?_
              refine lv_isub hx hb dX5_value_124 ?_
              refine s_iald (j := k) cf hw 3 rfl (nI_pred k) (by omega) rfl dX5_value_125 ?_
              refine lv_aload_n hx hb dX5_value_126 rfl (lv_at hl 4 rfl) ?_
              refine lv_iload_n hx hb dX5_value_127 rfl (lv_at hl 0 rfl) ?_
              refine s_iald (j := (k + 1)) cf hw 3 rfl (rfl) (by omega) rfl dX5_value_128 ?_
              refine s_calli (runS cf (x_joined ((tc i) - 20000) (st_ k) (st_ (k + 1))) hw [] (by decide) rfl km_X5_joined ks_X5_joined q394 rfl rfl hl.1 rfl dX5_value_129) hw [] (by decide) rfl (fun _ => rfl) (fun r_3 u_1 H locs hp_2 hw => ?_)
              have hw : WD g A s H locs [bO xa 5 ([.int ky, .int pc_, .ref ca]), bI g ca len tc, bI g na 6 nm, bI g sa 96 st_] := hw
              subst hp_2
              refine lv_topr (y := doneF (tc i - 20000) (st_ k) (st_ (k + 1))) (joinF_done hsgi _ _) ?_
              refine s_iast (j := k) cf hw 3 rfl (nI_pred k) (by omega) rfl dX5_value_132 (fun H locs hw => ?_)
              have hw : WD g A s H locs [bO xa 5 ([.int ky, .int pc_, .ref ca]), bI g ca len tc, bI g na 6 nm, bI g sa 96 (upd st_ k (doneF (tc i - 20000) (st_ k) (st_ (k + 1))))] := hw
              have e1 : evst (nmX nm) tc (i + 1) = doneF (tc i - 20000) (st_ k) (st_ (k + 1)) :: r0 := by show estep (nmX nm) (tc i) (evst (nmX nm) tc i) = _; rw [hst, hv0, hv1]; unfold estep; rw [if_neg (by grind), if_neg (by grind), if_neg (by grind)]
              have e2 : dpt tc (i + 1) = k + 1 := by show dstep (tc i) (dpt tc i) = _; unfold dstep; rw [if_neg (by grind), if_neg (by grind)]; omega
              have hpr2 : PR (upd st_ k (doneF (tc i - 20000) (st_ k) (st_ (k + 1)))) (evst (nmX nm) tc (i + 1)) := by rw [e1]; exact (hpr.pop.pop).push hrl
              have hl : lv_has ls 6 [(3, .int (nI (dpt tc (i + 1)))), (5, .int (tc i)), (0, .ref xa), (1, .ref na), (2, .ref sa), (4, .int (nI i))] := by rw [e2]; exact hl
              refine lv_iinc (v := nI (i + 1)) (lv' := [(4, .int (nI (i + 1))), (3, .int (nI (dpt tc (i + 1)))), (5, .int (tc i)), (0, .ref xa), (1, .ref na), (2, .ref sa)]) hx hb dX5_value_133 hl (k := 5) rfl (nI_1 i) (by decide) rfl (fun ls hl => ?_)
              refine lv_goto (tgt := 5) hx hb dX5_value_136 (by decide) ?_
              exact ih5 (i + 1) (upd st_ k (doneF (tc i - 20000) (st_ k) (st_ (k + 1)))) (by omega) (by omega) hpr2 _ _ _ hw (lv_sub hl [3, 4, 5, 1, 0] rfl)
          · refine lv_iload_n hx hb dX5_value_78 rfl (lv_at hl 4 rfl) ?_
            refine lv_if_le (tgt := 133) hx hb dX5_value_79 (by decide) (fun c79 => ?_) (fun c79 => ?_)
            · exact absurd c79 (nI_nle (by have := hok.2.1 i hlt (by grind) (by grind); omega) (by omega))
            · have hd1 := hok.2.1 i hlt (by grind) (by grind)
              obtain ⟨k, hk⟩ : ∃ k, dpt tc i = k + 1 := ⟨dpt tc i - 1, by omega⟩
              obtain ⟨v0, r0, hst⟩ : ∃ v0 r0, evst (nmX nm) tc i = v0 :: r0 := List.exists_cons_of_length_eq_add_one (hln.trans hk)
              have hrl : r0.length = k := by rw [hst] at hln; simp at hln; omega
              rw [hst] at hpr
              have hv0 : st_ k = v0 := by rw [← hrl]; exact hpr.top
              refine lv_aload_n hx hb dX5_value_82 rfl (lv_at hl 3 rfl) ?_
              refine lv_iload_n hx hb dX5_value_83 rfl (lv_at hl 4 rfl) ?_
              refine lv_iconst (v := 1) hx hb dX5_value_84 (by decide) ?_
              refine lv_isub hx hb dX5_value_85 ?_
              refine lv_aload_n hx hb dX5_value_86 rfl (lv_at hl 3 rfl) ?_
              refine lv_iload_n hx hb dX5_value_87 rfl (lv_at hl 4 rfl) ?_
              refine lv_iconst (v := 1) hx hb dX5_value_88 (by decide) ?_
              refine lv_isub hx hb dX5_value_89 ?_
              refine s_iald (j := k) cf hw 3 rfl (by rw [hk, nI_pred]) (by omega) rfl dX5_value_90 ?_
              refine lv_if_ne (tgt := 98) hx hb dX5_value_91 (by decide) (fun c91 => ?_) (fun c91 => ?_)
              · refine lv_iconst (v := 0) hx hb dX5_value_98 (by decide) ?_
                refine lv_topr (y := if v0 = 0 then 1 else 0) (by grind) ?_
                refine s_iast (j := k) cf hw 3 rfl (by rw [hk, nI_pred]) (by omega) rfl dX5_value_99 (fun H locs hw => ?_)
                have hw : WD g A s H locs [bO xa 5 ([.int ky, .int pc_, .ref ca]), bI g ca len tc, bI g na 6 nm, bI g sa 96 (upd st_ k (if v0 = 0 then 1 else 0))] := hw
                have e1 : evst (nmX nm) tc (i + 1) = (if v0 = 0 then 1 else 0) :: r0 := by show estep (nmX nm) (tc i) (evst (nmX nm) tc i) = _; rw [hst]; unfold estep; rw [if_neg (by grind), if_neg (by grind), if_pos (by grind)]
                have e2 : dpt tc (i + 1) = dpt tc i := by show dstep (tc i) (dpt tc i) = _; unfold dstep; rw [if_neg (by grind), if_pos (by grind)]
                have hpr2 : PR (upd st_ k (if v0 = 0 then 1 else 0)) (evst (nmX nm) tc (i + 1)) := by rw [e1]; exact (hpr.pop).push hrl
                have hl : lv_has ls 6 [(5, .int (tc i)), (0, .ref xa), (1, .ref na), (2, .ref sa), (3, .int (nI (dpt tc (i + 1)))), (4, .int (nI i))] := by rw [e2]; exact hl
                refine lv_goto (tgt := 133) hx hb dX5_value_100 (by decide) ?_
                refine lv_iinc (v := nI (i + 1)) (lv' := [(4, .int (nI (i + 1))), (5, .int (tc i)), (0, .ref xa), (1, .ref na), (2, .ref sa), (3, .int (nI (dpt tc (i + 1))))]) hx hb dX5_value_133 hl (k := 5) rfl (nI_1 i) (by decide) rfl (fun ls hl => ?_)
                refine lv_goto (tgt := 5) hx hb dX5_value_136 (by decide) ?_
                exact ih5 (i + 1) (upd st_ k (if v0 = 0 then 1 else 0)) (by omega) (by omega) hpr2 _ _ _ hw (lv_sub hl [2, 3, 4, 5, 0] rfl)
              · refine lv_iconst (v := 1) hx hb dX5_value_94 (by decide) ?_
                refine lv_goto (tgt := 99) hx hb dX5_value_95 (by decide) ?_
                refine lv_topr (y := if v0 = 0 then 1 else 0) (by grind) ?_
                refine s_iast (j := k) cf hw 3 rfl (by rw [hk, nI_pred]) (by omega) rfl dX5_value_99 (fun H locs hw => ?_)
                have hw : WD g A s H locs [bO xa 5 ([.int ky, .int pc_, .ref ca]), bI g ca len tc, bI g na 6 nm, bI g sa 96 (upd st_ k (if v0 = 0 then 1 else 0))] := hw
                have e1 : evst (nmX nm) tc (i + 1) = (if v0 = 0 then 1 else 0) :: r0 := by show estep (nmX nm) (tc i) (evst (nmX nm) tc i) = _; rw [hst]; unfold estep; rw [if_neg (by grind), if_neg (by grind), if_pos (by grind)]
                have e2 : dpt tc (i + 1) = dpt tc i := by show dstep (tc i) (dpt tc i) = _; unfold dstep; rw [if_neg (by grind), if_pos (by grind)]
                have hpr2 : PR (upd st_ k (if v0 = 0 then 1 else 0)) (evst (nmX nm) tc (i + 1)) := by rw [e1]; exact (hpr.pop).push hrl
                have hl : lv_has ls 6 [(5, .int (tc i)), (0, .ref xa), (1, .ref na), (2, .ref sa), (3, .int (nI (dpt tc (i + 1)))), (4, .int (nI i))] := by rw [e2]; exact hl
                refine lv_goto (tgt := 133) hx hb dX5_value_100 (by decide) ?_
                refine lv_iinc (v := nI (i + 1)) (lv' := [(4, .int (nI (i + 1))), (5, .int (tc i)), (0, .ref xa), (1, .ref na), (2, .ref sa), (3, .int (nI (dpt tc (i + 1))))]) hx hb dX5_value_133 hl (k := 5) rfl (nI_1 i) (by decide) rfl (fun ls hl => ?_)
                refine lv_goto (tgt := 5) hx hb dX5_value_136 (by decide) ?_
                exact ih5 (i + 1) (upd st_ k (if v0 = 0 then 1 else 0)) (by omega) (by omega) hpr2 _ _ _ hw (lv_sub hl [2, 3, 4, 5, 0] rfl)
        · refine lv_iload_n hx hb dX5_value_32 rfl (lv_at hl 4 rfl) ?_
          refine lv_aload_n hx hb dX5_value_33 rfl (lv_at hl 3 rfl) ?_
          refine s_alen (n32 := 96) cf hw 0 rfl 3 rfl rfl dX5_value_34 ?_
          refine lv_icmp_ge (tgt := 133) hx hb dX5_value_35 (by decide) (fun c35 => ?_) (fun c35 => ?_)
          · exact absurd (nI_le_of (n := 96) (by omega) c35 (by omega)) (by omega)
          · refine lv_aload_n hx hb dX5_value_38 rfl (lv_at hl 3 rfl) ?_
            refine lv_iload_n hx hb dX5_value_39 rfl (lv_at hl 4 rfl) ?_
            refine lv_iload hx hb dX5_value_40 (lv_at hl 0 rfl) ?_
            refine lv_sipush (v := 10000) hx hb dX5_value_42 (by decide) ?_
            refine lv_icmp_ge (tgt := 53) hx hb dX5_value_45 (by decide) (fun c45 => ?_) (fun c45 => ?_)
            · refine lv_aload_n hx hb dX5_value_53 rfl (lv_at hl 2 rfl) ?_
              refine lv_iload hx hb dX5_value_54 (lv_at hl 0 rfl) ?_
              refine lv_sipush (v := 10000) hx hb dX5_value_56 (by decide) ?_
              refine lv_isub hx hb dX5_value_59 ?_
              refine s_calli (runS cf (x_named (x := na) (nm := nm) ((tc i) - 10000)) hw [2] (by decide) rfl km_X5_named ks_X5_named q391 rfl rfl hl.1 rfl dX5_value_60) hw [2] (by decide) rfl (fun _ => rfl) (fun r_6 u_4 H locs hp_5 hw => ?_)
              have hw : WD g A s H locs [bO xa 5 ([.int ky, .int pc_, .ref ca]), bI g ca len tc, bI g na 6 nm, bI g sa 96 st_] := hw
              subst hp_5
              refine lv_topr (y := if tc i < 10000 then tc i else nmX nm (tc i)) (by grind [nmX]) ?_
              refine s_iast (j := (dpt tc i)) cf hw 3 rfl (rfl) (by omega) rfl dX5_value_63 (fun H locs hw => ?_)
              have hw : WD g A s H locs [bO xa 5 ([.int ky, .int pc_, .ref ca]), bI g ca len tc, bI g na 6 nm, bI g sa 96 (upd st_ (dpt tc i) (if tc i < 10000 then tc i else nmX nm (tc i)))] := hw
              refine lv_iinc (v := nI ((dpt tc i) + 1)) (lv' := [(3, .int (nI ((dpt tc i) + 1))), (5, .int (tc i)), (0, .ref xa), (1, .ref na), (2, .ref sa), (4, .int (nI i))]) hx hb dX5_value_64 hl (k := 4) rfl (nI_1 (dpt tc i)) (by decide) rfl (fun ls hl => ?_)
              have e1 : evst (nmX nm) tc (i + 1) = (if tc i < 10000 then tc i else nmX nm (tc i)) :: evst (nmX nm) tc i := by show estep (nmX nm) (tc i) (evst (nmX nm) tc i) = _; unfold estep; by_cases z : tc i < 10000; rw [if_pos z, if_pos z]; rw [if_neg z, if_neg z, if_pos (by grind)]
              have e2 : dpt tc (i + 1) = dpt tc i + 1 := by show dstep (tc i) (dpt tc i) = _; unfold dstep; rw [if_pos (by grind)]
              have hl : lv_has ls 6 [(3, .int (nI (dpt tc (i + 1)))), (5, .int (tc i)), (0, .ref xa), (1, .ref na), (2, .ref sa), (4, .int (nI i))] := by rw [e2]; exact hl
              have hpr2 : PR (upd st_ (dpt tc i) (if tc i < 10000 then tc i else nmX nm (tc i))) (evst (nmX nm) tc (i + 1)) := by rw [e1]; exact hpr.push hln
              refine lv_goto (tgt := 133) hx hb dX5_value_67 (by decide) ?_
              refine lv_iinc (v := nI (i + 1)) (lv' := [(4, .int (nI (i + 1))), (3, .int (nI (dpt tc (i + 1)))), (5, .int (tc i)), (0, .ref xa), (1, .ref na), (2, .ref sa)]) hx hb dX5_value_133 hl (k := 5) rfl (nI_1 i) (by decide) rfl (fun ls hl => ?_)
              refine lv_goto (tgt := 5) hx hb dX5_value_136 (by decide) ?_
              exact ih5 (i + 1) (upd st_ (dpt tc i) (if tc i < 10000 then tc i else nmX nm (tc i))) (by omega) (by omega) hpr2 _ _ _ hw (lv_sub hl [3, 4, 5, 1, 0] rfl)
            · refine lv_iload hx hb dX5_value_48 (lv_at hl 0 rfl) ?_
              refine lv_goto (tgt := 63) hx hb dX5_value_50 (by decide) ?_
              refine lv_topr (y := if tc i < 10000 then tc i else nmX nm (tc i)) (by grind [nmX]) ?_
              refine s_iast (j := (dpt tc i)) cf hw 3 rfl (rfl) (by omega) rfl dX5_value_63 (fun H locs hw => ?_)
              have hw : WD g A s H locs [bO xa 5 ([.int ky, .int pc_, .ref ca]), bI g ca len tc, bI g na 6 nm, bI g sa 96 (upd st_ (dpt tc i) (if tc i < 10000 then tc i else nmX nm (tc i)))] := hw
              refine lv_iinc (v := nI ((dpt tc i) + 1)) (lv' := [(3, .int (nI ((dpt tc i) + 1))), (5, .int (tc i)), (0, .ref xa), (1, .ref na), (2, .ref sa), (4, .int (nI i))]) hx hb dX5_value_64 hl (k := 4) rfl (nI_1 (dpt tc i)) (by decide) rfl (fun ls hl => ?_)
              have e1 : evst (nmX nm) tc (i + 1) = (if tc i < 10000 then tc i else nmX nm (tc i)) :: evst (nmX nm) tc i := by show estep (nmX nm) (tc i) (evst (nmX nm) tc i) = _; unfold estep; by_cases z : tc i < 10000; rw [if_pos z, if_pos z]; rw [if_neg z, if_neg z, if_pos (by grind)]
              have e2 : dpt tc (i + 1) = dpt tc i + 1 := by show dstep (tc i) (dpt tc i) = _; unfold dstep; rw [if_pos (by grind)]
              have hl : lv_has ls 6 [(3, .int (nI (dpt tc (i + 1)))), (5, .int (tc i)), (0, .ref xa), (1, .ref na), (2, .ref sa), (4, .int (nI i))] := by rw [e2]; exact hl
              have hpr2 : PR (upd st_ (dpt tc i) (if tc i < 10000 then tc i else nmX nm (tc i))) (evst (nmX nm) tc (i + 1)) := by rw [e1]; exact hpr.push hln
              refine lv_goto (tgt := 133) hx hb dX5_value_67 (by decide) ?_
              refine lv_iinc (v := nI (i + 1)) (lv' := [(4, .int (nI (i + 1))), (3, .int (nI (dpt tc (i + 1)))), (5, .int (tc i)), (0, .ref xa), (1, .ref na), (2, .ref sa)]) hx hb dX5_value_133 hl (k := 5) rfl (nI_1 i) (by decide) rfl (fun ls hl => ?_)
              refine lv_goto (tgt := 5) hx hb dX5_value_136 (by decide) ?_
              exact ih5 (i + 1) (upd st_ (dpt tc i) (if tc i < 10000 then tc i else nmX nm (tc i))) (by omega) (by omega) hpr2 _ _ _ hw (lv_sub hl [3, 4, 5, 1, 0] rfl)
  exact L5 (len + 1) 0 st_ (by omega) (by omega) PR.nil _ _ _ hw (lv_sub hl [2, 3, 4, 1, 0] rfl)
