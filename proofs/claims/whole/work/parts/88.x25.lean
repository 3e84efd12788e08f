set_option maxRecDepth 100000 in
set_option maxHeartbeats 4000000 in
theorem x_takePiece {l : Launch} {g : GG} {ra : Nat} {rd : Nat → Nat} {ta : Nat} {tf : DD} {ky : Int32} (hky : ky = 0 ∨ ky = 1 ∨ ky = 2) (q : MS) (cz sz : DD) (hcz : CR cz q.2.1) (hsz : PR sz q.2.2.1) (hok : okM q 95) {b0 e0 : Nat} (hbe : b0 < e0) (he : e0 ≤ 96) (hdd : isDg (tf b0) → ∀ j, b0 ≤ j → j < e0 → isDg (tf j)) : Ct l g yX1_takePiece cX1_takePiece 5 (Option.some Jvm.ClassFile.FieldType.int) 4 0 0 [.ref ra, .ref ta, .int (nI b0), .int (nI e0)] [bO ra 1 (rF rd (nI q.2.1.length) (nI q.2.2.1.length) (nI q.2.2.2.1) (nI q.2.2.2.2.1) (nI q.2.2.2.2.2) ky), bI g (rd 1) 96 cz, bI g (rd 2) 96 sz, bI g ta 96 tf] (QI g (fun r (u : DD × DD × MS) => CR u.1 u.2.2.2.1 ∧ PR u.2.1 u.2.2.2.2.1 ∧ ((r = 2 ∧ pceM tf ky b0 e0 q = none) ∨ (r = (if u.2.2.1 = true then 1 else 0) ∧ pceM tf ky b0 e0 q = some u.2.2))) (fun u => [bO ra 1 (rF rd (nI u.2.2.2.1.length) (nI u.2.2.2.2.1.length) (nI u.2.2.2.2.2.1) (nI u.2.2.2.2.2.2.1) (nI u.2.2.2.2.2.2.2) ky), bI g (rd 1) 96 u.1, bI g (rd 2) 96 u.2.1, bI g ta 96 tf])) := by
  refine Ct.of (by decide) rfl ?_
  intro p e s m args below meth c A H locs ls Qf cf hr hlk hnm hQ hw hl
  have hx := cf.1
  have hb := cf.2.1
  have hml := cf.2.2.1
  have hown := cf.2.2.2.1
  have hts := cf.2.2.2.2
  have hw : WD g A s H locs [bO ra 1 (rF rd (nI q.2.1.length) (nI q.2.2.1.length) (nI q.2.2.2.1) (nI q.2.2.2.2.1) (nI q.2.2.2.2.2) ky), bI g (rd 1) 96 cz, bI g (rd 2) 96 sz, bI g ta 96 tf] := hw
  have hl : lv_has ls 5 [(0, .ref ra), (1, .ref ta), (2, .int (nI b0)), (3, .int (nI e0))] := hl
  refine lv_aload_n hx hb dX1_takePiece_0 rfl (lv_at hl 1 rfl) ?_
  refine lv_iload_n hx hb dX1_takePiece_1 rfl (lv_at hl 2 rfl) ?_
  refine s_iald (j := b0) cf hw 3 rfl (rfl) (by omega) rfl dX1_takePiece_2 ?_
  refine lv_istore (lv' := [(4, .int (tf b0)), (0, .ref ra), (1, .ref ta), (2, .int (nI b0)), (3, .int (nI e0))]) hx hb dX1_takePiece_3 hl (by decide) rfl (fun ls hl => ?_)
  refine lv_iload hx hb dX1_takePiece_5 (lv_at hl 0 rfl) ?_
  refine s_calli (runS cf (x_isLetter (tf b0)) hw [] (by decide) rfl km_X1_isLetter ks_X1_isLetter q660 rfl rfl hl.1 rfl dX1_takePiece_7) hw [] (by decide) rfl (fun _ => rfl) (fun r_3 u_1 H locs hp_2 hw => ?_)
  have hw : WD g A s H locs [bO ra 1 (rF rd (nI q.2.1.length) (nI q.2.2.1.length) (nI q.2.2.2.1) (nI q.2.2.2.2.1) (nI q.2.2.2.2.2) ky), bI g (rd 1) 96 cz, bI g (rd 2) 96 sz, bI g ta 96 tf] := hw
  subst hp_2
  refine lv_if_eq (tgt := 57) hx hb dX1_takePiece_10 (by decide) (fun c10 => ?_) (fun c10 => ?_)
  · have c10 := b01_z c10
    have hL : ¬ isLt (tf b0) := c10
    refine lv_iload hx hb dX1_takePiece_57 (lv_at hl 0 rfl) ?_
    refine s_calli (runS cf (x_isDigit (tf b0)) hw [] (by decide) rfl km_X1_isDigit ks_X1_isDigit q663 rfl rfl hl.1 rfl dX1_takePiece_59) hw [] (by decide) rfl (fun _ => rfl) (fun r_6 u_4 H locs hp_5 hw => ?_)
    have hw : WD g A s H locs [bO ra 1 (rF rd (nI q.2.1.length) (nI q.2.2.1.length) (nI q.2.2.2.1) (nI q.2.2.2.2.1) (nI q.2.2.2.2.2) ky), bI g (rd 1) 96 cz, bI g (rd 2) 96 sz, bI g ta 96 tf] := hw
    subst hp_5
    refine lv_if_eq (tgt := 87) hx hb dX1_takePiece_62 (by decide) (fun c62 => ?_) (fun c62 => ?_)
    · have c62 := b01_z c62
      have hD : ¬ isDg (tf b0) := c62
      refine lv_iload hx hb dX1_takePiece_87 (lv_at hl 0 rfl) ?_
      refine lv_bipush (v := 40) hx hb dX1_takePiece_89 (by decide) ?_
      refine lv_icmp_ne (tgt := 121) hx hb dX1_takePiece_91 (by decide) (fun c91 => ?_) (fun c91 => ?_)
      · have hnb : ¬ (tf b0 = 40 ∧ q.2.2.2.1 < 8) := fun z => c91 z.1
        refine lv_iload hx hb dX1_takePiece_121 (lv_at hl 0 rfl) ?_
        refine lv_bipush (v := 33) hx hb dX1_takePiece_123 (by decide) ?_
        refine lv_icmp_ne (tgt := 155) hx hb dX1_takePiece_125 (by decide) (fun c125 => ?_) (fun c125 => ?_)
        · refine lv_iconst (v := 2) hx hb dX1_takePiece_155 (by decide) ?_
          exact s_iret cf hr hlk (cz, sz, q) hw (⟨hcz, hsz, Or.inl ⟨rfl, by unfold pceM; rw [if_neg hL, if_neg hD, if_neg hnb, if_neg (fun z => c125 z.1)]⟩⟩) (Nat.le_of_ble_eq_true rfl) (Nat.le_of_ble_eq_true rfl) dX1_takePiece_156 hQ
        · refine lv_aload_n hx hb dX1_takePiece_128 rfl (lv_at hl 1 rfl) ?_
          refine s_get (v := .int (nI q.2.2.2.2.1)) fb1 cf hw 0 rfl 5 rfl q228 rfl dX1_takePiece_129 ?_
          refine lv_bipush (v := 8) hx hb dX1_takePiece_132 (by decide) ?_
          refine lv_icmp_ge (tgt := 155) hx hb dX1_takePiece_134 (by decide) (fun c134 => ?_) (fun c134 => ?_)
          · have hnt : ¬ q.2.2.2.2.1 < 8 := fun z => absurd (nI_le_of (n := 8) (by omega) c134 (by omega)) (by omega)
            refine lv_iconst (v := 2) hx hb dX1_takePiece_155 (by decide) ?_
            exact s_iret cf hr hlk (cz, sz, q) hw (⟨hcz, hsz, Or.inl ⟨rfl, by unfold pceM; rw [if_neg hL, if_neg hD, if_neg hnb, if_neg (fun z => hnt z.2)]⟩⟩) (Nat.le_of_ble_eq_true rfl) (Nat.le_of_ble_eq_true rfl) dX1_takePiece_156 hQ
          · have hnt : q.2.2.2.2.1 < 8 := nI_lt_of (n := 8) (by have := hok.2.2.1; omega) c134 (by omega)
            refine lv_aload_n hx hb dX1_takePiece_137 rfl (lv_at hl 1 rfl) ?_
            refine lv_dup hx hb dX1_takePiece_138 rfl ?_
            refine s_get (v := .int (nI q.2.2.2.2.1)) fb1 cf hw 0 rfl 5 rfl q228 rfl dX1_takePiece_139 ?_
            refine lv_iconst (v := 1) hx hb dX1_takePiece_142 (by decide) ?_
            refine lv_iadd hx hb dX1_takePiece_143 ?_
            refine lv_topr (y := nI (q.2.2.2.2.1 + 1)) (nI_1 _) ?_
            refine s_put (v := .int (nI (q.2.2.2.2.1 + 1))) fb1 cf hw 0 rfl 5 rfl q228 rfl rfl rfl rfl dX1_takePiece_144 (fun H locs hw => ?_)
            have hw : WD g A s H locs [bO ra 1 (rF rd (nI q.2.1.length) (nI q.2.2.1.length) (nI q.2.2.2.1) (nI (q.2.2.2.2.1 + 1)) (nI q.2.2.2.2.2) ky), bI g (rd 1) 96 cz, bI g (rd 2) 96 sz, bI g ta 96 tf] := hw
            refine lv_aload_n hx hb dX1_takePiece_147 rfl (lv_at hl 1 rfl) ?_
            refine lv_iload hx hb dX1_takePiece_148 (lv_at hl 0 rfl) ?_
            refine s_callv (runV cf (x_leave (ra := ra) (rd := rd) (ky := ky) (S := q.2.2.1) (w_ := nI q.2.1.length) (b_ := nI q.2.2.2.1) (n_ := nI (q.2.2.2.2.1 + 1)) (p_ := nI q.2.2.2.2.2) (sz := sz) (by have := hok.1; omega) (tf b0)) hw [0, 2] (by decide) rfl km_X1_leaveOpen ki_X1_leaveOpen q772 (run_recv (ci := 1) (T := TX1) (N := 8) hw 0 rfl rfl) rfl rfl hl.1 rfl dX1_takePiece_150) hw [0, 2] (by decide) rfl (fun _ => rfl) (fun u_7 H locs hp_8 hw => ?_)
            have hw : WD g A s H locs [bO ra 1 (rF rd (nI q.2.1.length) (nI (q.2.2.1.length + 1)) (nI q.2.2.2.1) (nI (q.2.2.2.2.1 + 1)) (nI q.2.2.2.2.2) ky), bI g (rd 1) 96 cz, bI g (rd 2) 96 (upd sz q.2.2.1.length (tf b0)), bI g ta 96 tf] := hw
            have hw : WD g A s H locs [bO ra 1 (rF rd (nI q.2.1.length) (nI ((tf b0) :: q.2.2.1).length) (nI q.2.2.2.1) (nI (q.2.2.2.2.1 + 1)) (nI q.2.2.2.2.2) ky), bI g (rd 1) 96 cz, bI g (rd 2) 96 (upd sz q.2.2.1.length (tf b0)), bI g ta 96 tf] := hw
            refine lv_iconst (v := 0) hx hb dX1_takePiece_153 (by decide) ?_
            exact s_iret cf hr hlk (cz, upd sz q.2.2.1.length (tf b0), (false, q.2.1, tf b0 :: q.2.2.1, q.2.2.2.1, q.2.2.2.2.1 + 1, q.2.2.2.2.2)) hw (⟨hcz, hsz.up, Or.inr ⟨rfl, by unfold pceM; rw [if_neg hL, if_neg hD, if_neg hnb, if_pos ⟨c125, hnt⟩, c125]⟩⟩) (Nat.le_of_ble_eq_true rfl) (Nat.le_of_ble_eq_true rfl) dX1_takePiece_154 hQ
      · refine lv_aload_n hx hb dX1_takePiece_94 rfl (lv_at hl 1 rfl) ?_
        refine s_get (v := .int (nI q.2.2.2.1)) fb1 cf hw 0 rfl 4 rfl q227 rfl dX1_takePiece_95 ?_
        refine lv_bipush (v := 8) hx hb dX1_takePiece_98 (by decide) ?_
        refine lv_icmp_ge (tgt := 121) hx hb dX1_takePiece_100 (by decide) (fun c100 => ?_) (fun c100 => ?_)
        · have hnb : ¬ (tf b0 = 40 ∧ q.2.2.2.1 < 8) := fun z => absurd (nI_le_of (n := 8) (by omega) c100 (by omega)) (by omega)
          refine lv_iload hx hb dX1_takePiece_121 (lv_at hl 0 rfl) ?_
          refine lv_bipush (v := 33) hx hb dX1_takePiece_123 (by decide) ?_
          refine lv_icmp_ne (tgt := 155) hx hb dX1_takePiece_125 (by decide) (fun c125 => ?_) (fun c125 => ?_)
          · refine lv_iconst (v := 2) hx hb dX1_takePiece_155 (by decide) ?_
            exact s_iret cf hr hlk (cz, sz, q) hw (⟨hcz, hsz, Or.inl ⟨rfl, by unfold pceM; rw [if_neg hL, if_neg hD, if_neg hnb, if_neg (fun z => c125 z.1)]⟩⟩) (Nat.le_of_ble_eq_true rfl) (Nat.le_of_ble_eq_true rfl) dX1_takePiece_156 hQ
          · refine lv_aload_n hx hb dX1_takePiece_128 rfl (lv_at hl 1 rfl) ?_
            refine s_get (v := .int (nI q.2.2.2.2.1)) fb1 cf hw 0 rfl 5 rfl q228 rfl dX1_takePiece_129 ?_
            refine lv_bipush (v := 8) hx hb dX1_takePiece_132 (by decide) ?_
            refine lv_icmp_ge (tgt := 155) hx hb dX1_takePiece_134 (by decide) (fun c134 => ?_) (fun c134 => ?_)
            · have hnt : ¬ q.2.2.2.2.1 < 8 := fun z => absurd (nI_le_of (n := 8) (by omega) c134 (by omega)) (by omega)
              refine lv_iconst (v := 2) hx hb dX1_takePiece_155 (by decide) ?_
              exact s_iret cf hr hlk (cz, sz, q) hw (⟨hcz, hsz, Or.inl ⟨rfl, by unfold pceM; rw [if_neg hL, if_neg hD, if_neg hnb, if_neg (fun z => hnt z.2)]⟩⟩) (Nat.le_of_ble_eq_true rfl) (Nat.le_of_ble_eq_true rfl) dX1_takePiece_156 hQ
            · have hnt : q.2.2.2.2.1 < 8 := nI_lt_of (n := 8) (by have := hok.2.2.1; omega) c134 (by omega)
              refine lv_aload_n hx hb dX1_takePiece_137 rfl (lv_at hl 1 rfl) ?_
              refine lv_dup hx hb dX1_takePiece_138 rfl ?_
              refine s_get (v := .int (nI q.2.2.2.2.1)) fb1 cf hw 0 rfl 5 rfl q228 rfl dX1_takePiece_139 ?_
              refine lv_iconst (v := 1) hx hb dX1_takePiece_142 (by decide) ?_
              refine lv_iadd hx hb dX1_takePiece_143 ?_
              refine lv_topr (y := nI (q.2.2.2.2.1 + 1)) (nI_1 _) ?_
              refine s_put (v := .int (nI (q.2.2.2.2.1 + 1))) fb1 cf hw 0 rfl 5 rfl q228 rfl rfl rfl rfl dX1_takePiece_144 (fun H locs hw => ?_)
              have hw : WD g A s H locs [bO ra 1 (rF rd (nI q.2.1.length) (nI q.2.2.1.length) (nI q.2.2.2.1) (nI (q.2.2.2.2.1 + 1)) (nI q.2.2.2.2.2) ky), bI g (rd 1) 96 cz, bI g (rd 2) 96 sz, bI g ta 96 tf] := hw
              refine lv_aload_n hx hb dX1_takePiece_147 rfl (lv_at hl 1 rfl) ?_
              refine lv_iload hx hb dX1_takePiece_148 (lv_at hl 0 rfl) ?_
              refine s_callv (runV cf (x_leave (ra := ra) (rd := rd) (ky := ky) (S := q.2.2.1) (w_ := nI q.2.1.length) (b_ := nI q.2.2.2.1) (n_ := nI (q.2.2.2.2.1 + 1)) (p_ := nI q.2.2.2.2.2) (sz := sz) (by have := hok.1; omega) (tf b0)) hw [0, 2] (by decide) rfl km_X1_leaveOpen ki_X1_leaveOpen q772 (run_recv (ci := 1) (T := TX1) (N := 8) hw 0 rfl rfl) rfl rfl hl.1 rfl dX1_takePiece_150) hw [0, 2] (by decide) rfl (fun _ => rfl) (fun u_9 H locs hp_10 hw => ?_)
              have hw : WD g A s H locs [bO ra 1 (rF rd (nI q.2.1.length) (nI (q.2.2.1.length + 1)) (nI q.2.2.2.1) (nI (q.2.2.2.2.1 + 1)) (nI q.2.2.2.2.2) ky), bI g (rd 1) 96 cz, bI g (rd 2) 96 (upd sz q.2.2.1.length (tf b0)), bI g ta 96 tf] := hw
              have hw : WD g A s H locs [bO ra 1 (rF rd (nI q.2.1.length) (nI ((tf b0) :: q.2.2.1).length) (nI q.2.2.2.1) (nI (q.2.2.2.2.1 + 1)) (nI q.2.2.2.2.2) ky), bI g (rd 1) 96 cz, bI g (rd 2) 96 (upd sz q.2.2.1.length (tf b0)), bI g ta 96 tf] := hw
              refine lv_iconst (v := 0) hx hb dX1_takePiece_153 (by decide) ?_
              exact s_iret cf hr hlk (cz, upd sz q.2.2.1.length (tf b0), (false, q.2.1, tf b0 :: q.2.2.1, q.2.2.2.1, q.2.2.2.2.1 + 1, q.2.2.2.2.2)) hw (⟨hcz, hsz.up, Or.inr ⟨rfl, by unfold pceM; rw [if_neg hL, if_neg hD, if_neg hnb, if_pos ⟨c125, hnt⟩, c125]⟩⟩) (Nat.le_of_ble_eq_true rfl) (Nat.le_of_ble_eq_true rfl) dX1_takePiece_154 hQ
        · have hbr : q.2.2.2.1 < 8 := nI_lt_of (n := 8) (by have := hok.2.2.2; omega) c100 (by omega)
          refine lv_aload_n hx hb dX1_takePiece_103 rfl (lv_at hl 1 rfl) ?_
          refine lv_dup hx hb dX1_takePiece_104 rfl ?_
          refine s_get (v := .int (nI q.2.2.2.1)) fb1 cf hw 0 rfl 4 rfl q227 rfl dX1_takePiece_105 ?_
          refine lv_iconst (v := 1) hx hb dX1_takePiece_108 (by decide) ?_
          refine lv_iadd hx hb dX1_takePiece_109 ?_
          refine lv_topr (y := nI (q.2.2.2.1 + 1)) (nI_1 _) ?_
          refine s_put (v := .int (nI (q.2.2.2.1 + 1))) fb1 cf hw 0 rfl 4 rfl q227 rfl rfl rfl rfl dX1_takePiece_110 (fun H locs hw => ?_)
          have hw : WD g A s H locs [bO ra 1 (rF rd (nI q.2.1.length) (nI q.2.2.1.length) (nI (q.2.2.2.1 + 1)) (nI q.2.2.2.2.1) (nI q.2.2.2.2.2) ky), bI g (rd 1) 96 cz, bI g (rd 2) 96 sz, bI g ta 96 tf] := hw
          refine lv_aload_n hx hb dX1_takePiece_113 rfl (lv_at hl 1 rfl) ?_
          refine lv_iload hx hb dX1_takePiece_114 (lv_at hl 0 rfl) ?_
          refine s_callv (runV cf (x_leave (ra := ra) (rd := rd) (ky := ky) (S := q.2.2.1) (w_ := nI q.2.1.length) (b_ := nI (q.2.2.2.1 + 1)) (n_ := nI q.2.2.2.2.1) (p_ := nI q.2.2.2.2.2) (sz := sz) (by have := hok.1; omega) (tf b0)) hw [0, 2] (by decide) rfl km_X1_leaveOpen ki_X1_leaveOpen q772 (run_recv (ci := 1) (T := TX1) (N := 8) hw 0 rfl rfl) rfl rfl hl.1 rfl dX1_takePiece_116) hw [0, 2] (by decide) rfl (fun _ => rfl) (fun u_11 H locs hp_12 hw => ?_)
          have hw : WD g A s H locs [bO ra 1 (rF rd (nI q.2.1.length) (nI (q.2.2.1.length + 1)) (nI (q.2.2.2.1 + 1)) (nI q.2.2.2.2.1) (nI q.2.2.2.2.2) ky), bI g (rd 1) 96 cz, bI g (rd 2) 96 (upd sz q.2.2.1.length (tf b0)), bI g ta 96 tf] := hw
          have hw : WD g A s H locs [bO ra 1 (rF rd (nI q.2.1.length) (nI ((tf b0) :: q.2.2.1).length) (nI (q.2.2.2.1 + 1)) (nI q.2.2.2.2.1) (nI q.2.2.2.2.2) ky), bI g (rd 1) 96 cz, bI g (rd 2) 96 (upd sz q.2.2.1.length (tf b0)), bI g ta 96 tf] := hw
          refine lv_iconst (v := 0) hx hb dX1_takePiece_119 (by decide) ?_
          exact s_iret cf hr hlk (cz, upd sz q.2.2.1.length (tf b0), (false, q.2.1, tf b0 :: q.2.2.1, q.2.2.2.1 + 1, q.2.2.2.2.1, q.2.2.2.2.2)) hw (⟨hcz, hsz.up, Or.inr ⟨rfl, by unfold pceM; rw [if_neg hL, if_neg hD, if_pos ⟨c91, hbr⟩, c91]⟩⟩) (Nat.le_of_ble_eq_true rfl) (Nat.le_of_ble_eq_true rfl) dX1_takePiece_120 hQ
    · have c62 := b01_n c62
      have hD : isDg (tf b0) := c62
      refine lv_iload_n hx hb dX1_takePiece_65 rfl (lv_at hl 4 rfl) ?_
      refine lv_iload_n hx hb dX1_takePiece_66 rfl (lv_at hl 3 rfl) ?_
      refine lv_isub hx hb dX1_takePiece_67 ?_
      refine lv_topr (y := nI (e0 - b0)) (pk_sub (by omega)) ?_
      refine lv_iconst (v := 4) hx hb dX1_takePiece_68 (by decide) ?_
      refine lv_icmp_gt (tgt := 85) hx hb dX1_takePiece_69 (by decide) (fun c69 => ?_) (fun c69 => ?_)
      · have he4 : ¬ e0 - b0 ≤ 4 := fun z => absurd (nI_le (b := 4) z (by omega)) (Int32.not_le.mpr c69)
        refine lv_iconst (v := 2) hx hb dX1_takePiece_85 (by decide) ?_
        exact s_iret cf hr hlk (cz, sz, q) hw (⟨hcz, hsz, Or.inl ⟨rfl, by unfold pceM; rw [if_neg hL, if_pos hD, if_neg he4]⟩⟩) (Nat.le_of_ble_eq_true rfl) (Nat.le_of_ble_eq_true rfl) dX1_takePiece_86 hQ
      · have he4 : e0 - b0 ≤ 4 := by rcases Nat.lt_or_ge 4 (e0 - b0) with z | z; exact absurd (nI_lt (a := 4) z (by omega)) c69; exact z
        refine lv_aload_n hx hb dX1_takePiece_72 rfl (lv_at hl 1 rfl) ?_
        refine lv_aload_n hx hb dX1_takePiece_73 rfl (lv_at hl 2 rfl) ?_
        refine lv_iload_n hx hb dX1_takePiece_74 rfl (lv_at hl 3 rfl) ?_
        refine lv_iload_n hx hb dX1_takePiece_75 rfl (lv_at hl 4 rfl) ?_
        refine s_calli (runS cf (x_numberOf (ta := ta) (tf := tf) (b0 := b0) (e0 := e0) (by omega) he (hdd hD)) hw [3] (by decide) rfl km_X1_numberOf ks_X1_numberOf q769 rfl rfl hl.1 rfl dX1_takePiece_76) hw [3] (by decide) rfl (fun _ => rfl) (fun r_15 u_13 H locs hp_14 hw => ?_)
        have hw : WD g A s H locs [bO ra 1 (rF rd (nI q.2.1.length) (nI q.2.2.1.length) (nI q.2.2.2.1) (nI q.2.2.2.2.1) (nI q.2.2.2.2.2) ky), bI g (rd 1) 96 cz, bI g (rd 2) 96 sz, bI g ta 96 tf] := hw
        subst hp_14
        refine s_calli (runV cf (x_takeValue (ra := ra) (rd := rd) (ky := ky) q cz sz hcz hsz hok (nI (n10 tf b0 (e0 - b0)))) hw [0, 1, 2] (by decide) rfl km_X1_takeValue ki_X1_takeValue q757 (run_recv (ci := 1) (T := TX1) (N := 8) hw 0 rfl rfl) rfl rfl hl.1 rfl dX1_takePiece_79) hw [0, 1, 2] (by decide) rfl (fun _ => rfl) (fun r_18 u_16 H locs hp_17 hw => ?_)
        have hw : WD g A s H locs [bO ra 1 (rF rd (nI (valM (nI (n10 tf b0 (e0 - b0))) q).2.1.length) (nI (valM (nI (n10 tf b0 (e0 - b0))) q).2.2.1.length) (nI (valM (nI (n10 tf b0 (e0 - b0))) q).2.2.2.1) (nI (valM (nI (n10 tf b0 (e0 - b0))) q).2.2.2.2.1) (nI (valM (nI (n10 tf b0 (e0 - b0))) q).2.2.2.2.2) ky), bI g (rd 1) 96 u_16, bI g (rd 2) 96 sz, bI g ta 96 tf] := hw
        obtain ⟨hrv, hvc, hvs⟩ := hp_17
        subst hrv
        refine lv_goto (tgt := 86) hx hb dX1_takePiece_82 (by decide) ?_
        exact s_iret cf hr hlk (u_16, sz, valM (nI (n10 tf b0 (e0 - b0))) q) hw (⟨hvc, hvs, Or.inr ⟨rfl, by unfold pceM; rw [if_neg hL, if_pos hD, if_pos he4]; rfl⟩⟩) (Nat.le_of_ble_eq_true rfl) (Nat.le_of_ble_eq_true rfl) dX1_takePiece_86 hQ
  · have c10 := b01_n c10
    have hL : isLt (tf b0) := c10
    have hc := hL
    refine lv_iload_n hx hb dX1_takePiece_13 rfl (lv_at hl 4 rfl) ?_
    refine lv_iload_n hx hb dX1_takePiece_14 rfl (lv_at hl 3 rfl) ?_
    refine lv_isub hx hb dX1_takePiece_15 ?_
    refine lv_topr (y := nI (e0 - b0)) (pk_sub (by omega)) ?_
    refine lv_iconst (v := 1) hx hb dX1_takePiece_16 (by decide) ?_
    refine lv_icmp_ne (tgt := 55) hx hb dX1_takePiece_17 (by decide) (fun c17 => ?_) (fun c17 => ?_)
    · have he1 : ¬ e0 - b0 = 1 := fun z => c17 (by rw [z]; rfl)
      refine lv_iconst (v := 2) hx hb dX1_takePiece_55 (by decide) ?_
      exact s_iret cf hr hlk (cz, sz, q) hw (⟨hcz, hsz, Or.inl ⟨rfl, by unfold pceM; rw [if_pos hL, if_neg (fun z => he1 z.1)]⟩⟩) (Nat.le_of_ble_eq_true rfl) (Nat.le_of_ble_eq_true rfl) dX1_takePiece_56 hQ
    · have he1 : e0 - b0 = 1 := (nI_eq (b := 1) (by omega) (by omega)).mp c17
      refine lv_aload_n hx hb dX1_takePiece_20 rfl (lv_at hl 1 rfl) ?_
      refine s_get (v := .int ky) fb1 cf hw 0 rfl 7 rfl q230 rfl dX1_takePiece_21 ?_
      refine s_callq (runS cf (x_namesOf ky) hw [] (by decide) rfl km_X1_namesOf ks_X1_namesOf q677 rfl rfl hl.1 rfl dX1_takePiece_24) hw [] (by decide) rfl (fun _ => rfl) (fun r_21 u_19 H locs hp_20 hw => ?_)
      have hw : WD g A s H locs [bO ra 1 (rF rd (nI q.2.1.length) (nI q.2.2.1.length) (nI q.2.2.2.1) (nI q.2.2.2.2.1) (nI q.2.2.2.2.2) ky), bI g (rd 1) 96 cz, bI g (rd 2) 96 sz, bI g ta 96 tf] := hw
      subst hp_20
      have hix := idx_all hL
      rcases hky with hk0 | hk0 | hk0
      · subst hk0
        refine lv_topv (y := .ref (g.2.2 (10 + 1))) (by rfl) ?_
        refine lv_iload hx hb dX1_takePiece_27 (lv_at hl 0 rfl) ?_
        refine lv_i2c (v := ((tf b0 : Int32).toUInt32 % 65536).toInt32) hx hb dX1_takePiece_29 rfl ?_
        refine lv_topr (y := tf b0) (i2c_lt hL) ?_
        refine s_calli (runV cf (j_ix (i := 1) (by decide) (tf b0) hc) hw [] (by decide) rfl km_J0_indexOf_0f7a4 ki_J0_indexOf_0f7a4 q683 (vk_recv hw.2.2.2.2.2.2.2.2.2.2.2.2.2.2 (i := 1) (by omega) hw.2.2.2.1) rfl rfl hl.1 rfl dX1_takePiece_30) hw [] (by decide) rfl (fun _ => rfl) (fun r_24 u_22 H locs hp_23 hw => ?_)
        have hw : WD g A s H locs [bO ra 1 (rF rd (nI q.2.1.length) (nI q.2.2.1.length) (nI q.2.2.2.1) (nI q.2.2.2.2.1) (nI q.2.2.2.2.2) 0), bI g (rd 1) 96 cz, bI g (rd 2) 96 sz, bI g ta 96 tf] := hw
        subst hp_23
        refine lv_if_lt (tgt := 55) hx hb dX1_takePiece_33 (by decide) (fun c33 => ?_) (fun c33 => ?_)
        · have hnm1 : nmC 0 (tf b0) = -1 := by rcases hix.1 with z | z; exact z.2; exact absurd z.1 (Int32.not_le.mpr c33)
          refine lv_iconst (v := 2) hx hb dX1_takePiece_55 (by decide) ?_
          exact s_iret cf hr hlk (cz, sz, q) hw (⟨hcz, hsz, Or.inl ⟨rfl, by unfold pceM; rw [if_pos hL, if_neg (fun z => absurd z.2 (by rw [hnm1]; decide))]⟩⟩) (Nat.le_of_ble_eq_true rfl) (Nat.le_of_ble_eq_true rfl) dX1_takePiece_56 hQ
        · have hnm2 : nmC 0 (tf b0) = idxF 0 (tf b0) ∧ 0 ≤ nmC 0 (tf b0) := by rcases hix.1 with z | z; exact absurd (show idxF _ (tf b0) < 0 by rw [z.1]; decide) c33; exact z.2
          have hn0 := hnm2.2
          refine lv_aload_n hx hb dX1_takePiece_36 rfl (lv_at hl 1 rfl) ?_
          refine lv_sipush (v := 10000) hx hb dX1_takePiece_37 (by decide) ?_
          refine va_ldcS hx hb hown hw.2.2.2.2.2.2.2.2.2.2.2.2.2.1.2.1 dX1_takePiece_40 ?_
          refine lv_topv (y := .ref (g.2.2 (10 + 0))) rfl ?_
          refine lv_iload hx hb dX1_takePiece_42 (lv_at hl 0 rfl) ?_
          refine lv_i2c (v := ((tf b0 : Int32).toUInt32 % 65536).toInt32) hx hb dX1_takePiece_44 rfl ?_
          refine lv_topr (y := tf b0) (i2c_lt hL) ?_
          refine s_calli (runV cf (j_ix (i := 0) (by decide) (tf b0) hc) hw [] (by decide) rfl km_J0_indexOf_0f7a4 ki_J0_indexOf_0f7a4 q683 (vk_recv hw.2.2.2.2.2.2.2.2.2.2.2.2.2.2 (i := 0) (by omega) hw.2.2.2.1) rfl rfl hl.1 rfl dX1_takePiece_45) hw [] (by decide) rfl (fun _ => rfl) (fun r_27 u_25 H locs hp_26 hw => ?_)
          have hw : WD g A s H locs [bO ra 1 (rF rd (nI q.2.1.length) (nI q.2.2.1.length) (nI q.2.2.2.1) (nI q.2.2.2.2.1) (nI q.2.2.2.2.2) 0), bI g (rd 1) 96 cz, bI g (rd 2) 96 sz, bI g ta 96 tf] := hw
          subst hp_26
          refine lv_iadd hx hb dX1_takePiece_48 ?_
          refine lv_topr (y := 10000 + nmC 0 (tf b0)) (by rw [hnm2.1]) ?_
          refine s_calli (runV cf (x_takeValue (ra := ra) (rd := rd) (ky := 0) q cz sz hcz hsz hok (10000 + nmC 0 (tf b0))) hw [0, 1, 2] (by decide) rfl km_X1_takeValue ki_X1_takeValue q757 (run_recv (ci := 1) (T := TX1) (N := 8) hw 0 rfl rfl) rfl rfl hl.1 rfl dX1_takePiece_49) hw [0, 1, 2] (by decide) rfl (fun _ => rfl) (fun r_30 u_28 H locs hp_29 hw => ?_)
          have hw : WD g A s H locs [bO ra 1 (rF rd (nI (valM (10000 + nmC 0 (tf b0)) q).2.1.length) (nI (valM (10000 + nmC 0 (tf b0)) q).2.2.1.length) (nI (valM (10000 + nmC 0 (tf b0)) q).2.2.2.1) (nI (valM (10000 + nmC 0 (tf b0)) q).2.2.2.2.1) (nI (valM (10000 + nmC 0 (tf b0)) q).2.2.2.2.2) 0), bI g (rd 1) 96 u_28, bI g (rd 2) 96 sz, bI g ta 96 tf] := hw
          obtain ⟨hrv, hvc, hvs⟩ := hp_29
          subst hrv
          refine lv_goto (tgt := 56) hx hb dX1_takePiece_52 (by decide) ?_
          have hpm : pceM tf 0 b0 e0 q = some (valM (10000 + nmC 0 (tf b0)) q) := by unfold pceM; rw [if_pos hL, if_pos ⟨he1, hn0⟩]
          exact s_iret cf hr hlk (u_28, sz, valM (10000 + nmC 0 (tf b0)) q) hw (⟨hvc, hvs, Or.inr ⟨rfl, hpm⟩⟩) (Nat.le_of_ble_eq_true rfl) (Nat.le_of_ble_eq_true rfl) dX1_takePiece_56 hQ
      · subst hk0
        refine lv_topv (y := .ref (g.2.2 (10 + 2))) (by rfl) ?_
        refine lv_iload hx hb dX1_takePiece_27 (lv_at hl 0 rfl) ?_
        refine lv_i2c (v := ((tf b0 : Int32).toUInt32 % 65536).toInt32) hx hb dX1_takePiece_29 rfl ?_
        refine lv_topr (y := tf b0) (i2c_lt hL) ?_
        refine s_calli (runV cf (j_ix (i := 2) (by decide) (tf b0) hc) hw [] (by decide) rfl km_J0_indexOf_0f7a4 ki_J0_indexOf_0f7a4 q683 (vk_recv hw.2.2.2.2.2.2.2.2.2.2.2.2.2.2 (i := 2) (by omega) hw.2.2.2.1) rfl rfl hl.1 rfl dX1_takePiece_30) hw [] (by decide) rfl (fun _ => rfl) (fun r_33 u_31 H locs hp_32 hw => ?_)
        have hw : WD g A s H locs [bO ra 1 (rF rd (nI q.2.1.length) (nI q.2.2.1.length) (nI q.2.2.2.1) (nI q.2.2.2.2.1) (nI q.2.2.2.2.2) 1), bI g (rd 1) 96 cz, bI g (rd 2) 96 sz, bI g ta 96 tf] := hw
        subst hp_32
        refine lv_if_lt (tgt := 55) hx hb dX1_takePiece_33 (by decide) (fun c33 => ?_) (fun c33 => ?_)
        · have hnm1 : nmC 1 (tf b0) = -1 := by rcases hix.2.1 with z | z; exact z.2; exact absurd z.1 (Int32.not_le.mpr c33)
          refine lv_iconst (v := 2) hx hb dX1_takePiece_55 (by decide) ?_
          exact s_iret cf hr hlk (cz, sz, q) hw (⟨hcz, hsz, Or.inl ⟨rfl, by unfold pceM; rw [if_pos hL, if_neg (fun z => absurd z.2 (by rw [hnm1]; decide))]⟩⟩) (Nat.le_of_ble_eq_true rfl) (Nat.le_of_ble_eq_true rfl) dX1_takePiece_56 hQ
        · have hnm2 : nmC 1 (tf b0) = idxF 0 (tf b0) ∧ 0 ≤ nmC 1 (tf b0) := by rcases hix.2.1 with z | z; exact absurd (show idxF _ (tf b0) < 0 by rw [z.1]; decide) c33; exact z.2
          have hn0 := hnm2.2
          refine lv_aload_n hx hb dX1_takePiece_36 rfl (lv_at hl 1 rfl) ?_
          refine lv_sipush (v := 10000) hx hb dX1_takePiece_37 (by decide) ?_
          refine va_ldcS hx hb hown hw.2.2.2.2.2.2.2.2.2.2.2.2.2.1.2.1 dX1_takePiece_40 ?_
          refine lv_topv (y := .ref (g.2.2 (10 + 0))) rfl ?_
          refine lv_iload hx hb dX1_takePiece_42 (lv_at hl 0 rfl) ?_
          refine lv_i2c (v := ((tf b0 : Int32).toUInt32 % 65536).toInt32) hx hb dX1_takePiece_44 rfl ?_
          refine lv_topr (y := tf b0) (i2c_lt hL) ?_
          refine s_calli (runV cf (j_ix (i := 0) (by decide) (tf b0) hc) hw [] (by decide) rfl km_J0_indexOf_0f7a4 ki_J0_indexOf_0f7a4 q683 (vk_recv hw.2.2.2.2.2.2.2.2.2.2.2.2.2.2 (i := 0) (by omega) hw.2.2.2.1) rfl rfl hl.1 rfl dX1_takePiece_45) hw [] (by decide) rfl (fun _ => rfl) (fun r_36 u_34 H locs hp_35 hw => ?_)
          have hw : WD g A s H locs [bO ra 1 (rF rd (nI q.2.1.length) (nI q.2.2.1.length) (nI q.2.2.2.1) (nI q.2.2.2.2.1) (nI q.2.2.2.2.2) 1), bI g (rd 1) 96 cz, bI g (rd 2) 96 sz, bI g ta 96 tf] := hw
          subst hp_35
          refine lv_iadd hx hb dX1_takePiece_48 ?_
          refine lv_topr (y := 10000 + nmC 1 (tf b0)) (by rw [hnm2.1]) ?_
          refine s_calli (runV cf (x_takeValue (ra := ra) (rd := rd) (ky := 1) q cz sz hcz hsz hok (10000 + nmC 1 (tf b0))) hw [0, 1, 2] (by decide) rfl km_X1_takeValue ki_X1_takeValue q757 (run_recv (ci := 1) (T := TX1) (N := 8) hw 0 rfl rfl) rfl rfl hl.1 rfl dX1_takePiece_49) hw [0, 1, 2] (by decide) rfl (fun _ => rfl) (fun r_39 u_37 H locs hp_38 hw => ?_)
          have hw : WD g A s H locs [bO ra 1 (rF rd (nI (valM (10000 + nmC 1 (tf b0)) q).2.1.length) (nI (valM (10000 + nmC 1 (tf b0)) q).2.2.1.length) (nI (valM (10000 + nmC 1 (tf b0)) q).2.2.2.1) (nI (valM (10000 + nmC 1 (tf b0)) q).2.2.2.2.1) (nI (valM (10000 + nmC 1 (tf b0)) q).2.2.2.2.2) 1), bI g (rd 1) 96 u_37, bI g (rd 2) 96 sz, bI g ta 96 tf] := hw
          obtain ⟨hrv, hvc, hvs⟩ := hp_38
          subst hrv
          refine lv_goto (tgt := 56) hx hb dX1_takePiece_52 (by decide) ?_
          have hpm : pceM tf 1 b0 e0 q = some (valM (10000 + nmC 1 (tf b0)) q) := by unfold pceM; rw [if_pos hL, if_pos ⟨he1, hn0⟩]
          exact s_iret cf hr hlk (u_37, sz, valM (10000 + nmC 1 (tf b0)) q) hw (⟨hvc, hvs, Or.inr ⟨rfl, hpm⟩⟩) (Nat.le_of_ble_eq_true rfl) (Nat.le_of_ble_eq_true rfl) dX1_takePiece_56 hQ
      · subst hk0
        refine lv_topv (y := .ref (g.2.2 (10 + 3))) (by rfl) ?_
        refine lv_iload hx hb dX1_takePiece_27 (lv_at hl 0 rfl) ?_
        refine lv_i2c (v := ((tf b0 : Int32).toUInt32 % 65536).toInt32) hx hb dX1_takePiece_29 rfl ?_
        refine lv_topr (y := tf b0) (i2c_lt hL) ?_
        refine s_calli (runV cf (j_ix (i := 3) (by decide) (tf b0) hc) hw [] (by decide) rfl km_J0_indexOf_0f7a4 ki_J0_indexOf_0f7a4 q683 (vk_recv hw.2.2.2.2.2.2.2.2.2.2.2.2.2.2 (i := 3) (by omega) hw.2.2.2.1) rfl rfl hl.1 rfl dX1_takePiece_30) hw [] (by decide) rfl (fun _ => rfl) (fun r_42 u_40 H locs hp_41 hw => ?_)
        have hw : WD g A s H locs [bO ra 1 (rF rd (nI q.2.1.length) (nI q.2.2.1.length) (nI q.2.2.2.1) (nI q.2.2.2.2.1) (nI q.2.2.2.2.2) 2), bI g (rd 1) 96 cz, bI g (rd 2) 96 sz, bI g ta 96 tf] := hw
        subst hp_41
        refine lv_if_lt (tgt := 55) hx hb dX1_takePiece_33 (by decide) (fun c33 => ?_) (fun c33 => ?_)
        · have hnm1 : nmC 2 (tf b0) = -1 := by rcases hix.2.2 with z | z; exact z.2; exact absurd z.1 (Int32.not_le.mpr c33)
          refine lv_iconst (v := 2) hx hb dX1_takePiece_55 (by decide) ?_
          exact s_iret cf hr hlk (cz, sz, q) hw (⟨hcz, hsz, Or.inl ⟨rfl, by unfold pceM; rw [if_pos hL, if_neg (fun z => absurd z.2 (by rw [hnm1]; decide))]⟩⟩) (Nat.le_of_ble_eq_true rfl) (Nat.le_of_ble_eq_true rfl) dX1_takePiece_56 hQ
        · have hnm2 : nmC 2 (tf b0) = idxF 0 (tf b0) ∧ 0 ≤ nmC 2 (tf b0) := by rcases hix.2.2 with z | z; exact absurd (show idxF _ (tf b0) < 0 by rw [z.1]; decide) c33; exact z.2
          have hn0 := hnm2.2
          refine lv_aload_n hx hb dX1_takePiece_36 rfl (lv_at hl 1 rfl) ?_
          refine lv_sipush (v := 10000) hx hb dX1_takePiece_37 (by decide) ?_
          refine va_ldcS hx hb hown hw.2.2.2.2.2.2.2.2.2.2.2.2.2.1.2.1 dX1_takePiece_40 ?_
          refine lv_topv (y := .ref (g.2.2 (10 + 0))) rfl ?_
          refine lv_iload hx hb dX1_takePiece_42 (lv_at hl 0 rfl) ?_
          refine lv_i2c (v := ((tf b0 : Int32).toUInt32 % 65536).toInt32) hx hb dX1_takePiece_44 rfl ?_
          refine lv_topr (y := tf b0) (i2c_lt hL) ?_
          refine s_calli (runV cf (j_ix (i := 0) (by decide) (tf b0) hc) hw [] (by decide) rfl km_J0_indexOf_0f7a4 ki_J0_indexOf_0f7a4 q683 (vk_recv hw.2.2.2.2.2.2.2.2.2.2.2.2.2.2 (i := 0) (by omega) hw.2.2.2.1) rfl rfl hl.1 rfl dX1_takePiece_45) hw [] (by decide) rfl (fun _ => rfl) (fun r_45 u_43 H locs hp_44 hw => ?_)
          have hw : WD g A s H locs [bO ra 1 (rF rd (nI q.2.1.length) (nI q.2.2.1.length) (nI q.2.2.2.1) (nI q.2.2.2.2.1) (nI q.2.2.2.2.2) 2), bI g (rd 1) 96 cz, bI g (rd 2) 96 sz, bI g ta 96 tf] := hw
          subst hp_44
          refine lv_iadd hx hb dX1_takePiece_48 ?_
          refine lv_topr (y := 10000 + nmC 2 (tf b0)) (by rw [hnm2.1]) ?_
          refine s_calli (runV cf (x_takeValue (ra := ra) (rd := rd) (ky := 2) q cz sz hcz hsz hok (10000 + nmC 2 (tf b0))) hw [0, 1, 2] (by decide) rfl km_X1_takeValue ki_X1_takeValue q757 (run_recv (ci := 1) (T := TX1) (N := 8) hw 0 rfl rfl) rfl rfl hl.1 rfl dX1_takePiece_49) hw [0, 1, 2] (by decide) rfl (fun _ => rfl) (fun r_48 u_46 H locs hp_47 hw => ?_)
          have hw : WD g A s H locs [bO ra 1 (rF rd (nI (valM (10000 + nmC 2 (tf b0)) q).2.1.length) (nI (valM (10000 + nmC 2 (tf b0)) q).2.2.1.length) (nI (valM (10000 + nmC 2 (tf b0)) q).2.2.2.1) (nI (valM (10000 + nmC 2 (tf b0)) q).2.2.2.2.1) (nI (valM (10000 + nmC 2 (tf b0)) q).2.2.2.2.2) 2), bI g (rd 1) 96 u_46, bI g (rd 2) 96 sz, bI g ta 96 tf] := hw
          obtain ⟨hrv, hvc, hvs⟩ := hp_47
          subst hrv
          refine lv_goto (tgt := 56) hx hb dX1_takePiece_52 (by decide) ?_
          have hpm : pceM tf 2 b0 e0 q = some (valM (10000 + nmC 2 (tf b0)) q) := by unfold pceM; rw [if_pos hL, if_pos ⟨he1, hn0⟩]
          exact s_iret cf hr hlk (u_46, sz, valM (10000 + nmC 2 (tf b0)) q) hw (⟨hvc, hvs, Or.inr ⟨rfl, hpm⟩⟩) (Nat.le_of_ble_eq_true rfl) (Nat.le_of_ble_eq_true rfl) dX1_takePiece_56 hQ
set_option maxRecDepth 100000 in
set_option maxHeartbeats 4000000 in
theorem x_faultOf {l : Launch} {g : GG} {ra ta : Nat} {rd : Nat → Nat} {w_ o_ b_ n_ p_ k_ : Int32} {tf : DD} {tp : Nat} (htp : tp ≤ 96) (hby : BY tf tp) (cz sz : DD) : Ct l g yX1_faultOf cX1_faultOf 8 (Option.some Jvm.ClassFile.FieldType.int) 5 0 0 [.ref ra, .ref ta, .int (nI tp)] [bO ra 1 (rF rd w_ o_ b_ n_ p_ k_), bI g (rd 1) 96 cz, bI g (rd 2) 96 sz, bI g ta 96 tf] (QI g (fun r (u : DD × DD × MS) => r = (fltM tf tp).1 ∧ (r = -1 → u.2.2 = (fltM tf tp).2 ∧ CR u.1 u.2.2.2.1)) (fun u => [bO ra 1 (rF rd (nI u.2.2.2.1.length) (nI u.2.2.2.2.1.length) (nI u.2.2.2.2.2.1) (nI u.2.2.2.2.2.2.1) (nI u.2.2.2.2.2.2.2) (kyM tf tp)), bI g (rd 1) 96 u.1, bI g (rd 2) 96 u.2.1, bI g ta 96 tf])) := by
  refine Ct.of (by decide) rfl ?_
  intro p e s m args below meth c A H locs ls Qf cf hr hlk hnm hQ hw hl
  have hx := cf.1
  have hb := cf.2.1
  have hml := cf.2.2.1
  have hown := cf.2.2.2.1
  have hts := cf.2.2.2.2
  have hw : WD g A s H locs [bO ra 1 (rF rd w_ o_ b_ n_ p_ k_), bI g (rd 1) 96 cz, bI g (rd 2) 96 sz, bI g ta 96 tf] := hw
  have hl : lv_has ls 8 [(0, .ref ra), (1, .ref ta), (2, .int (nI tp))] := hl
  have hr0 := lxs_rng (tf := tf) (tp := tp) 0
  refine lv_aload_n hx hb dX1_faultOf_0 rfl (lv_at hl 0 rfl) ?_
  refine lv_iconst (v := 0) hx hb dX1_faultOf_1 (by decide) ?_
  refine s_put (v := .int 0) fb1 cf hw 0 rfl 2 rfl q225 rfl rfl rfl rfl dX1_faultOf_2 (fun H locs hw => ?_)
  have hw : WD g A s H locs [bO ra 1 (rF rd 0 o_ b_ n_ p_ k_), bI g (rd 1) 96 cz, bI g (rd 2) 96 sz, bI g ta 96 tf] := hw
  refine lv_aload_n hx hb dX1_faultOf_5 rfl (lv_at hl 0 rfl) ?_
  refine lv_iconst (v := 0) hx hb dX1_faultOf_6 (by decide) ?_
  refine s_put (v := .int 0) fb1 cf hw 0 rfl 3 rfl q226 rfl rfl rfl rfl dX1_faultOf_7 (fun H locs hw => ?_)
  have hw : WD g A s H locs [bO ra 1 (rF rd 0 0 b_ n_ p_ k_), bI g (rd 1) 96 cz, bI g (rd 2) 96 sz, bI g ta 96 tf] := hw
  refine lv_aload_n hx hb dX1_faultOf_10 rfl (lv_at hl 0 rfl) ?_
  refine lv_iconst (v := 0) hx hb dX1_faultOf_11 (by decide) ?_
  refine s_put (v := .int 0) fb1 cf hw 0 rfl 4 rfl q227 rfl rfl rfl rfl dX1_faultOf_12 (fun H locs hw => ?_)
  have hw : WD g A s H locs [bO ra 1 (rF rd 0 0 0 n_ p_ k_), bI g (rd 1) 96 cz, bI g (rd 2) 96 sz, bI g ta 96 tf] := hw
  refine lv_aload_n hx hb dX1_faultOf_15 rfl (lv_at hl 0 rfl) ?_
  refine lv_iconst (v := 0) hx hb dX1_faultOf_16 (by decide) ?_
  refine s_put (v := .int 0) fb1 cf hw 0 rfl 5 rfl q228 rfl rfl rfl rfl dX1_faultOf_17 (fun H locs hw => ?_)
  have hw : WD g A s H locs [bO ra 1 (rF rd 0 0 0 0 p_ k_), bI g (rd 1) 96 cz, bI g (rd 2) 96 sz, bI g ta 96 tf] := hw
  refine lv_aload_n hx hb dX1_faultOf_20 rfl (lv_at hl 0 rfl) ?_
  refine lv_iconst (v := 0) hx hb dX1_faultOf_21 (by decide) ?_
  refine s_put (v := .int 0) fb1 cf hw 0 rfl 6 rfl q229 rfl rfl rfl rfl dX1_faultOf_22 (fun H locs hw => ?_)
  have hw : WD g A s H locs [bO ra 1 (rF rd 0 0 0 0 0 k_), bI g (rd 1) 96 cz, bI g (rd 2) 96 sz, bI g ta 96 tf] := hw
  refine lv_aload_n hx hb dX1_faultOf_25 rfl (lv_at hl 1 rfl) ?_
  refine lv_iload_n hx hb dX1_faultOf_26 rfl (lv_at hl 2 rfl) ?_
  refine lv_iconst (v := 0) hx hb dX1_faultOf_27 (by decide) ?_
  refine s_calli (runS cf (x_past (ta := ta) (tf := tf) (tp := tp) htp (a0 := 0) (by omega)) hw [3] (by decide) rfl km_X1_pastBlanks ks_X1_pastBlanks q654 rfl rfl hl.1 rfl dX1_faultOf_28) hw [3] (by decide) rfl (fun _ => rfl) (fun r_3 u_1 H locs hp_2 hw => ?_)
  have hw : WD g A s H locs [bO ra 1 (rF rd 0 0 0 0 0 k_), bI g (rd 1) 96 cz, bI g (rd 2) 96 sz, bI g ta 96 tf] := hw
  subst hp_2
  refine lv_topr (y := nI (bgA tf tp 0)) (by rw [show bgA tf tp 0 = skipB tf tp 0 from lex_b]) ?_
  refine lv_istore_n (lv' := [(3, .int (nI (bgA tf tp 0))), (0, .ref ra), (1, .ref ta), (2, .int (nI tp))]) hx hb dX1_faultOf_31 rfl hl (by decide) rfl (fun ls hl => ?_)
  refine lv_aload_n hx hb dX1_faultOf_32 rfl (lv_at hl 2 rfl) ?_
  refine lv_iload_n hx hb dX1_faultOf_33 rfl (lv_at hl 3 rfl) ?_
  refine lv_iload_n hx hb dX1_faultOf_34 rfl (lv_at hl 0 rfl) ?_
  refine s_calli (runS cf (x_endOf (ta := ta) (tf := tf) (tp := tp) htp (b0 := (bgA tf tp 0)) (by omega)) hw [3] (by decide) rfl km_X1_endOf ks_X1_endOf q657 rfl rfl hl.1 rfl dX1_faultOf_35) hw [3] (by decide) rfl (fun _ => rfl) (fun r_6 u_4 H locs hp_5 hw => ?_)
  have hw : WD g A s H locs [bO ra 1 (rF rd 0 0 0 0 0 k_), bI g (rd 1) 96 cz, bI g (rd 2) 96 sz, bI g ta 96 tf] := hw
  subst hp_5
  refine lv_topr (y := nI (atA tf tp 0)) (by rw [show atA tf tp 0 = endM tf tp (bgA tf tp 0) by rw [show bgA tf tp 0 = skipB tf tp 0 from lex_b]; exact lex_at (Nat.zero_le _)]) ?_
  refine lv_istore (lv' := [(4, .int (nI (atA tf tp 0))), (3, .int (nI (bgA tf tp 0))), (0, .ref ra), (1, .ref ta), (2, .int (nI tp))]) hx hb dX1_faultOf_38 hl (by decide) rfl (fun ls hl => ?_)
  refine lv_aload_n hx hb dX1_faultOf_40 rfl (lv_at hl 2 rfl) ?_
  refine lv_aload_n hx hb dX1_faultOf_41 rfl (lv_at hl 3 rfl) ?_
  refine lv_iload_n hx hb dX1_faultOf_42 rfl (lv_at hl 1 rfl) ?_
  refine lv_iload hx hb dX1_faultOf_43 (lv_at hl 0 rfl) ?_
  refine s_calli (runS cf (x_keyOf (ta := ta) (tf := tf) (b0 := (bgA tf tp 0)) (e0 := (atA tf tp 0)) hr0.1 (by omega)) hw [3] (by decide) rfl km_X1_keyOf ks_X1_keyOf q667 rfl rfl hl.1 rfl dX1_faultOf_45) hw [3] (by decide) rfl (fun _ => rfl) (fun r_9 u_7 H locs hp_8 hw => ?_)
  have hw : WD g A s H locs [bO ra 1 (rF rd 0 0 0 0 0 k_), bI g (rd 1) 96 cz, bI g (rd 2) 96 sz, bI g ta 96 tf] := hw
  subst hp_8
  refine lv_topr (y := kyM tf tp) (rfl) ?_
  refine s_put (v := .int (kyM tf tp)) fb1 cf hw 0 rfl 7 rfl q230 rfl rfl rfl rfl dX1_faultOf_48 (fun H locs hw => ?_)
  have hw : WD g A s H locs [bO ra 1 (rF rd 0 0 0 0 0 (kyM tf tp)), bI g (rd 1) 96 cz, bI g (rd 2) 96 sz, bI g ta 96 tf] := hw
  refine lv_aload_n hx hb dX1_faultOf_51 rfl (lv_at hl 2 rfl) ?_
  refine s_get (v := .int (kyM tf tp)) fb1 cf hw 0 rfl 7 rfl q230 rfl dX1_faultOf_52 ?_
  refine lv_if_ge (tgt := 60) hx hb dX1_faultOf_55 (by decide) (fun c55 => ?_) (fun c55 => ?_)
  · have hky3 : kyM tf tp = 0 ∨ kyM tf tp = 1 ∨ kyM tf tp = 2 := by rcases keyM_3 (tf := tf) (b := bgA tf tp 0) (e := atA tf tp 0) with z | z | z | z; exact absurd c55 (by rw [show kyM tf tp = -1 from z]; decide); exact Or.inl z; exact Or.inr (Or.inl z); exact Or.inr (Or.inr z)
    have hkl : 0 + 3 ≤ atA tf tp 0 ∧ tkA tf tp 0 = 1 := by have h5 := key_eq hby c55; exact ⟨by have := h5.1; omega, h5.2⟩
    refine lv_iconst (v := 0) hx hb dX1_faultOf_60 (by decide) ?_
    refine lv_istore (lv' := [(5, .int 0), (4, .int (nI (atA tf tp 0))), (3, .int (nI (bgA tf tp 0))), (0, .ref ra), (1, .ref ta), (2, .int (nI tp))]) hx hb dX1_faultOf_61 hl (by decide) rfl (fun ls hl => ?_)
    refine lv_iconst (v := 0) hx hb dX1_faultOf_63 (by decide) ?_
    refine lv_istore (lv' := [(6, .int 0), (5, .int 0), (4, .int (nI (atA tf tp 0))), (3, .int (nI (bgA tf tp 0))), (0, .ref ra), (1, .ref ta), (2, .int (nI tp))]) hx hb dX1_faultOf_64 hl (by decide) rfl (fun ls hl => ?_)
    have L66 : ∀ (fu : Nat) (i : Nat) (q : MS) (cz sz : DD), (CR cz q.2.1) → (PR sz q.2.2.1) → (okM q i) → ((fltM tf tp) = runM tf tp (kyM tf tp) fu i q) → (i + 3 ≤ atA tf tp i) → (¬ tkA tf tp i = 0) → (atA tf tp i ≤ tp) → (tp < i + fu) → ∀ (H : Heap) (locs : List Loc) (ls : Array Slot), WD g A s H locs [bO ra 1 (rF rd (nI q.2.1.length) (nI q.2.2.1.length) (nI q.2.2.2.1) (nI q.2.2.2.2.1) (nI q.2.2.2.2.2) (kyM tf tp)), bI g (rd 1) 96 cz, bI g (rd 2) 96 sz, bI g ta 96 tf] → lv_has ls 8 [(0, .ref ra), (1, .ref ta), (2, .int (nI tp)), (4, .int (nI (atA tf tp i))), (5, .int (if q.1 = true then 1 else 0)), (6, .int (nI i))] → W p l e (rmx 5 0 0) s m args below meth c H locs 0 0 Qf (F0 m 66 ls []) := by
      intro fu
      induction fu with
      | zero => intro i q cz sz hcz hsz hok hres hi3 hi0 hat hfu; exfalso; omega
      | succ fu ih66 =>
        intro i q cz sz hcz hsz hok hres hi3 hi0 hat hfu H locs ls hw hl
        have hr1 := lxs_rng (tf := tf) (tp := tp) (i + 1)
        have hb1 := bg_step (tf := tf) (tp := tp) (i := i)
        have hok95 : okM q 95 := ⟨by have := hok.1; omega, hok.2⟩
        refine lv_iload hx hb dX1_faultOf_66 (lv_at hl 5 rfl) ?_
        refine lv_iload_n hx hb dX1_faultOf_68 rfl (lv_at hl 2 rfl) ?_
        refine lv_icmp_ge (tgt := 174) hx hb dX1_faultOf_69 (by decide) (fun c69 => ?_) (fun c69 => ?_)
        · exact absurd (nI_le_of (by omega) c69 (by omega)) (by omega)
        · refine lv_iload hx hb dX1_faultOf_72 (lv_at hl 3 rfl) ?_
          refine lv_iload_n hx hb dX1_faultOf_74 rfl (lv_at hl 2 rfl) ?_
          refine lv_icmp_ge (tgt := 174) hx hb dX1_faultOf_75 (by decide) (fun c75 => ?_) (fun c75 => ?_)
          · have hae : atA tf tp i = tp := by have := nI_le_of (by omega) c75 (by omega); omega
            have hbt2 : bgA tf tp (i + 1) = tp := by omega
            have hfin : tkA tf tp (i + 1) = 0 := tk0.mpr hbt2
            refine lv_iload hx hb dX1_faultOf_174 (lv_at hl 4 rfl) ?_
            refine lv_if_eq (tgt := 186) hx hb dX1_faultOf_176 (by decide) (fun c176 => ?_) (fun c176 => ?_)
            · have c176 := b01_z c176
              refine lv_iload_n hx hb dX1_faultOf_186 rfl (lv_at hl 2 rfl) ?_
              exact s_iret cf hr hlk (cz, sz, q) hw (⟨by rw [hres]; show _ = (if tkA tf tp (i + 1) = 0 then _ else _ : Int32 × MS).1; rw [if_pos hfin]; unfold finM; rw [if_pos (Or.inl (by simpa using c176))], fun z => absurd z (fun y => absurd (show nI tp < 0 by rw [y]; decide) (nI_pos (by omega)))⟩) (Nat.le_of_ble_eq_true rfl) (Nat.le_of_ble_eq_true rfl) dX1_faultOf_187 hQ
            · have c176 := b01_n c176
              refine lv_aload_n hx hb dX1_faultOf_179 rfl (lv_at hl 0 rfl) ?_
              refine s_get (v := .int (nI q.2.2.2.1)) fb1 cf hw 0 rfl 4 rfl q227 rfl dX1_faultOf_180 ?_
              refine lv_if_le (tgt := 188) hx hb dX1_faultOf_183 (by decide) (fun c183 => ?_) (fun c183 => ?_)
              · have hbr : ¬ 0 < q.2.2.2.1 := fun z => absurd c183 (nI_nle z (by have := hok.2.2.2; omega))
                refine lv_aload_n hx hb dX1_faultOf_188 rfl (lv_at hl 0 rfl) ?_
                refine lv_iconst (v := 1) hx hb dX1_faultOf_189 (by decide) ?_
                refine s_callv (runV cf (x_closeD (ra := ra) (rd := rd) (ky := kyM tf tp) (b_ := nI q.2.2.2.1) (n_ := nI q.2.2.2.2.1) (p_ := nI q.2.2.2.2.2) q.2.1 q.2.2.1 cz sz hcz hsz (by have := hok95.1; omega) 1 (by omega)) hw [0, 1, 2] (by decide) rfl km_X1_closeDownTo ki_X1_closeDownTo q784 (run_recv (ci := 1) (T := TX1) (N := 8) hw 0 rfl rfl) rfl rfl hl.1 rfl dX1_faultOf_190) hw [0, 1, 2] (by decide) rfl (fun _ => rfl) (fun u_10 H locs hp_11 hw => ?_)
                have hw : WD g A s H locs [bO ra 1 (rF rd (nI (closeD 1 q.2.1 q.2.2.1).1.length) (nI (closeD 1 q.2.1 q.2.2.1).2.length) (nI q.2.2.2.1) (nI q.2.2.2.2.1) (nI q.2.2.2.2.2) (kyM tf tp)), bI g (rd 1) 96 u_10, bI g (rd 2) 96 sz, bI g ta 96 tf] := hw
                have hcD := hp_11
                refine lv_iconst (v := (-1)) hx hb dX1_faultOf_193 (by decide) ?_
                have hend : (fltM tf tp) = (-1, (true, (closeD 1 q.2.1 q.2.2.1).1, (closeD 1 q.2.1 q.2.2.1).2, q.2.2.2.1, q.2.2.2.2.1, q.2.2.2.2.2)) := by rw [hres]; show (if tkA tf tp (i + 1) = 0 then finM tp q else _ : Int32 × MS) = _; rw [if_pos hfin]; unfold finM; rw [if_neg (fun z => by rcases z with y | y; rw [y] at c176; exact absurd c176 (by decide); exact hbr y)]
                exact s_iret cf hr hlk (u_10, sz, (true, (closeD 1 q.2.1 q.2.2.1).1, (closeD 1 q.2.1 q.2.2.1).2, q.2.2.2.1, q.2.2.2.2.1, q.2.2.2.2.2)) hw (⟨by rw [hend], fun _ => by rw [hend]; exact ⟨rfl, hcD.1⟩⟩) (Nat.le_of_ble_eq_true rfl) (Nat.le_of_ble_eq_true rfl) dX1_faultOf_194 hQ
              · have hbr : 0 < q.2.2.2.1 := by rcases Nat.eq_zero_or_pos q.2.2.2.1 with z | z; exact absurd (by rw [z]; decide) c183; exact z
                refine lv_iload_n hx hb dX1_faultOf_186 rfl (lv_at hl 2 rfl) ?_
                exact s_iret cf hr hlk (cz, sz, q) hw (⟨by rw [hres]; show _ = (if tkA tf tp (i + 1) = 0 then _ else _ : Int32 × MS).1; rw [if_pos hfin]; unfold finM; rw [if_pos (Or.inr hbr)], fun z => absurd z (fun y => absurd (show nI tp < 0 by rw [y]; decide) (nI_pos (by omega)))⟩) (Nat.le_of_ble_eq_true rfl) (Nat.le_of_ble_eq_true rfl) dX1_faultOf_187 hQ
          · have hael : atA tf tp i < tp := nI_lt_of (by omega) c75 (by omega)
            refine lv_aload_n hx hb dX1_faultOf_78 rfl (lv_at hl 1 rfl) ?_
            refine lv_iload hx hb dX1_faultOf_79 (lv_at hl 3 rfl) ?_
            refine lv_iconst (v := 1) hx hb dX1_faultOf_81 (by decide) ?_
            refine lv_isub hx hb dX1_faultOf_82 ?_
            refine s_iald (j := (atA tf tp i - 1)) cf hw 3 rfl (pk_sub (b := 1) (by omega)) (by omega) rfl dX1_faultOf_83 ?_
            refine s_calli (runS cf (x_isWord (tf (atA tf tp i - 1))) hw [] (by decide) rfl km_X1_isWord ks_X1_isWord q670 rfl rfl hl.1 rfl dX1_faultOf_84) hw [] (by decide) rfl (fun _ => rfl) (fun r_14 u_12 H locs hp_13 hw => ?_)
            have hw : WD g A s H locs [bO ra 1 (rF rd (nI q.2.1.length) (nI q.2.2.1.length) (nI q.2.2.2.1) (nI q.2.2.2.2.1) (nI q.2.2.2.2.2) (kyM tf tp)), bI g (rd 1) 96 cz, bI g (rd 2) 96 sz, bI g ta 96 tf] := hw
            subst hp_13
            refine lv_istore (lv' := [(7, .int (if isLt (tf (atA tf tp i - 1)) ∨ isDg (tf (atA tf tp i - 1)) then 1 else 0)), (0, .ref ra), (1, .ref ta), (2, .int (nI tp)), (4, .int (nI (atA tf tp i))), (5, .int (if q.1 = true then 1 else 0)), (6, .int (nI i))]) hx hb dX1_faultOf_87 hl (by decide) rfl (fun ls hl => ?_)
            refine lv_aload_n hx hb dX1_faultOf_89 rfl (lv_at hl 2 rfl) ?_
            refine lv_iload_n hx hb dX1_faultOf_90 rfl (lv_at hl 3 rfl) ?_
            refine lv_iload hx hb dX1_faultOf_91 (lv_at hl 4 rfl) ?_
            refine s_calli (runS cf (x_past (ta := ta) (tf := tf) (tp := tp) htp (a0 := (atA tf tp i)) (by omega)) hw [3] (by decide) rfl km_X1_pastBlanks ks_X1_pastBlanks q654 rfl rfl hl.1 rfl dX1_faultOf_93) hw [3] (by decide) rfl (fun _ => rfl) (fun r_17 u_15 H locs hp_16 hw => ?_)
            have hw : WD g A s H locs [bO ra 1 (rF rd (nI q.2.1.length) (nI q.2.2.1.length) (nI q.2.2.2.1) (nI q.2.2.2.2.1) (nI q.2.2.2.2.2) (kyM tf tp)), bI g (rd 1) 96 cz, bI g (rd 2) 96 sz, bI g ta 96 tf] := hw
            subst hp_16
            refine lv_topr (y := nI (bgA tf tp (i + 1))) (by rw [bg_s]) ?_
            refine lv_istore_n (lv' := [(3, .int (nI (bgA tf tp (i + 1)))), (7, .int (if isLt (tf (atA tf tp i - 1)) ∨ isDg (tf (atA tf tp i - 1)) then 1 else 0)), (0, .ref ra), (1, .ref ta), (2, .int (nI tp)), (4, .int (nI (atA tf tp i))), (5, .int (if q.1 = true then 1 else 0)), (6, .int (nI i))]) hx hb dX1_faultOf_96 rfl hl (by decide) rfl (fun ls hl => ?_)
            refine lv_iload_n hx hb dX1_faultOf_97 rfl (lv_at hl 0 rfl) ?_
            refine lv_iload_n hx hb dX1_faultOf_98 rfl (lv_at hl 4 rfl) ?_
            refine lv_icmp_lt (tgt := 105) hx hb dX1_faultOf_99 (by decide) (fun c99 => ?_) (fun c99 => ?_)
            · have hbl : bgA tf tp (i + 1) < tp := by rw [nI_ltI (by omega) (by omega)] at c99; exact c99
              have hbt : ¬ bgA tf tp (i + 1) = tp := by omega
              have hn0 : ¬ tkA tf tp (i + 1) = 0 := fun z => hbt (tk0.mp z)
              have hbe2 := hr1.2.2.2 hn0
              have hdd2 : isDg (tf (bgA tf tp (i + 1))) → ∀ j, bgA tf tp (i + 1) ≤ j → j < atA tf tp (i + 1) → isDg (tf j) := fun z j h1 h2 => by rw [at_s] at h2; unfold endM at h2; rw [if_pos hbl, if_neg (fun y => by have a1 := y.1; have a2 := z.2; grind), if_pos z] at h2; exact endD_all j h1 h2
              refine lv_iload_n hx hb dX1_faultOf_105 rfl (lv_at hl 0 rfl) ?_
              refine lv_iload hx hb dX1_faultOf_106 (lv_at hl 5 rfl) ?_
              refine lv_icmp_ne (tgt := 127) hx hb dX1_faultOf_108 (by decide) (fun c108 => ?_) (fun c108 => ?_)
              · have hnt4 : ¬ (tkA tf tp (i + 1) = 0 ∨ tkA tf tp (i + 1) = 4) := fun z => by rcases z with y | y; exact hn0 y; exact c108 (by rw [((tk4 hi0 hbt).mp y).1])
                refine lv_aload_n hx hb dX1_faultOf_127 rfl (lv_at hl 3 rfl) ?_
                refine lv_iload_n hx hb dX1_faultOf_128 rfl (lv_at hl 4 rfl) ?_
                refine lv_iload_n hx hb dX1_faultOf_129 rfl (lv_at hl 0 rfl) ?_
                refine s_calli (runS cf (x_endOf (ta := ta) (tf := tf) (tp := tp) htp (b0 := (bgA tf tp (i + 1))) (by omega)) hw [3] (by decide) rfl km_X1_endOf ks_X1_endOf q657 rfl rfl hl.1 rfl dX1_faultOf_130) hw [3] (by decide) rfl (fun _ => rfl) (fun r_20 u_18 H locs hp_19 hw => ?_)
                have hw : WD g A s H locs [bO ra 1 (rF rd (nI q.2.1.length) (nI q.2.2.1.length) (nI q.2.2.2.1) (nI q.2.2.2.2.1) (nI q.2.2.2.2.2) (kyM tf tp)), bI g (rd 1) 96 cz, bI g (rd 2) 96 sz, bI g ta 96 tf] := hw
                subst hp_19
                refine lv_topr (y := nI (atA tf tp (i + 1))) (by rw [at_s]) ?_
                refine lv_istore (lv' := [(4, .int (nI (atA tf tp (i + 1)))), (3, .int (nI (bgA tf tp (i + 1)))), (7, .int (if isLt (tf (atA tf tp i - 1)) ∨ isDg (tf (atA tf tp i - 1)) then 1 else 0)), (0, .ref ra), (1, .ref ta), (2, .int (nI tp)), (5, .int (if q.1 = true then 1 else 0)), (6, .int (nI i))]) hx hb dX1_faultOf_133 hl (by decide) rfl (fun ls hl => ?_)
                refine lv_iload hx hb dX1_faultOf_135 (lv_at hl 6 rfl) ?_
                refine lv_if_ne (tgt := 151) hx hb dX1_faultOf_137 (by decide) (fun c137 => ?_) (fun c137 => ?_)
                · have c137 := b01_n c137
                  have hmode := c137
                  refine lv_aload_n hx hb dX1_faultOf_151 rfl (lv_at hl 3 rfl) ?_
                  refine lv_aload_n hx hb dX1_faultOf_152 rfl (lv_at hl 4 rfl) ?_
                  refine lv_iload_n hx hb dX1_faultOf_153 rfl (lv_at hl 1 rfl) ?_
                  refine s_iald (j := (bgA tf tp (i + 1))) cf hw 3 rfl (rfl) (by omega) rfl dX1_faultOf_154 ?_
                  refine s_calli (runV cf (x_takeSign (ra := ra) (rd := rd) (ky := kyM tf tp) q cz sz hcz hsz hok95 (tf (bgA tf tp (i + 1)))) hw [0, 1, 2] (by decide) rfl km_X1_takeSign ki_X1_takeSign q776 (run_recv (ci := 1) (T := TX1) (N := 8) hw 0 rfl rfl) rfl rfl hl.1 rfl dX1_faultOf_155) hw [0, 1, 2] (by decide) rfl (fun _ => rfl) (fun r_23 u_21 H locs hp_22 hw => ?_)
                  have hw : WD g A s H locs [bO ra 1 (rF rd (nI u_21.2.2.2.1.length) (nI u_21.2.2.2.2.1.length) (nI u_21.2.2.2.2.2.1) (nI u_21.2.2.2.2.2.2.1) (nI u_21.2.2.2.2.2.2.2) (kyM tf tp)), bI g (rd 1) 96 u_21.1, bI g (rd 2) 96 u_21.2.1, bI g ta 96 tf] := hw
                  obtain ⟨hcu, hpu, hst⟩ := hp_22
                  have hst : (r_23 = 2 ∧ stpM tf tp (kyM tf tp) (i + 1) q = none) ∨ (r_23 = (if u_21.2.2.1 = true then 1 else 0) ∧ stpM tf tp (kyM tf tp) (i + 1) q = some u_21.2.2) := by unfold stpM; rw [if_neg hnt4, if_pos hmode]; exact hst
                  refine lv_istore (lv' := [(5, .int r_23), (4, .int (nI (atA tf tp (i + 1)))), (3, .int (nI (bgA tf tp (i + 1)))), (7, .int (if isLt (tf (atA tf tp i - 1)) ∨ isDg (tf (atA tf tp i - 1)) then 1 else 0)), (0, .ref ra), (1, .ref ta), (2, .int (nI tp)), (6, .int (nI i))]) hx hb dX1_faultOf_158 hl (by decide) rfl (fun ls hl => ?_)
                  refine lv_iload hx hb dX1_faultOf_160 (lv_at hl 0 rfl) ?_
                  refine lv_iconst (v := 2) hx hb dX1_faultOf_162 (by decide) ?_
                  refine lv_icmp_ne (tgt := 168) hx hb dX1_faultOf_163 (by decide) (fun c163 => ?_) (fun c163 => ?_)
                  · obtain ⟨hrv, hsome⟩ := hst.resolve_left (fun z => c163 z.1)
                    have hl : lv_has ls 8 [(5, .int (if u_21.2.2.1 = true then 1 else 0)), (4, .int (nI (atA tf tp (i + 1)))), (3, .int (nI (bgA tf tp (i + 1)))), (7, .int (if isLt (tf (atA tf tp i - 1)) ∨ isDg (tf (atA tf tp i - 1)) then 1 else 0)), (0, .ref ra), (1, .ref ta), (2, .int (nI tp)), (6, .int (nI i))] := by rw [← hrv]; exact hl
                    refine lv_iinc (v := nI (i + 1)) (lv' := [(6, .int (nI (i + 1))), (5, .int (if u_21.2.2.1 = true then 1 else 0)), (4, .int (nI (atA tf tp (i + 1)))), (3, .int (nI (bgA tf tp (i + 1)))), (7, .int (if isLt (tf (atA tf tp i - 1)) ∨ isDg (tf (atA tf tp i - 1)) then 1 else 0)), (0, .ref ra), (1, .ref ta), (2, .int (nI tp))]) hx hb dX1_faultOf_168 hl (k := 7) rfl (nI_1 i) (by decide) rfl (fun ls hl => ?_)
                    refine lv_goto (tgt := 66) hx hb dX1_faultOf_171 (by decide) ?_
                    exact ih66 (i + 1) u_21.2.2 u_21.1 u_21.2.1 hcu hpu (okM_stp hok hsome) (by rw [hres]; show (if tkA tf tp (i + 1) = 0 then _ else _ : Int32 × MS) = _; rw [if_neg hn0, hsome]) (by omega) hn0 (by omega) (by omega) _ _ _ hw (lv_sub hl [5, 6, 7, 2, 1, 0] rfl)
                  · refine lv_iload_n hx hb dX1_faultOf_166 rfl (lv_at hl 2 rfl) ?_
                    have hnone : stpM tf tp (kyM tf tp) (i + 1) q = none := by rcases hst with z | z; exact z.2; exact absurd (z.1.symm.trans c163) (by split <;> decide)
                    exact s_iret cf hr hlk (u_21.1, u_21.2.1, u_21.2.2) hw (⟨by rw [hres]; show _ = (if tkA tf tp (i + 1) = 0 then _ else _ : Int32 × MS).1; rw [if_neg hn0, hnone], fun z => absurd z (fun y => absurd (show nI (bgA tf tp (i + 1)) < 0 by rw [y]; decide) (nI_pos (by omega)))⟩) (Nat.le_of_ble_eq_true rfl) (Nat.le_of_ble_eq_true rfl) dX1_faultOf_167 hQ
                · have c137 := b01_z c137
                  have hmode := c137
                  refine lv_aload_n hx hb dX1_faultOf_140 rfl (lv_at hl 3 rfl) ?_
                  refine lv_aload_n hx hb dX1_faultOf_141 rfl (lv_at hl 4 rfl) ?_
                  refine lv_iload_n hx hb dX1_faultOf_142 rfl (lv_at hl 1 rfl) ?_
                  refine lv_iload hx hb dX1_faultOf_143 (lv_at hl 0 rfl) ?_
                  refine s_calli (runV cf (x_takePiece (ra := ra) (rd := rd) (ta := ta) (tf := tf) (ky := kyM tf tp) hky3 q cz sz hcz hsz hok95 (b0 := bgA tf tp (i + 1)) (e0 := atA tf tp (i + 1)) hbe2 (by omega) hdd2) hw [0, 1, 2, 3] (by decide) rfl km_X1_takePiece ki_X1_takePiece q673 (run_recv (ci := 1) (T := TX1) (N := 8) hw 0 rfl rfl) rfl rfl hl.1 rfl dX1_faultOf_145) hw [0, 1, 2, 3] (by decide) rfl (fun _ => rfl) (fun r_26 u_24 H locs hp_25 hw => ?_)
                  have hw : WD g A s H locs [bO ra 1 (rF rd (nI u_24.2.2.2.1.length) (nI u_24.2.2.2.2.1.length) (nI u_24.2.2.2.2.2.1) (nI u_24.2.2.2.2.2.2.1) (nI u_24.2.2.2.2.2.2.2) (kyM tf tp)), bI g (rd 1) 96 u_24.1, bI g (rd 2) 96 u_24.2.1, bI g ta 96 tf] := hw
                  obtain ⟨hcu, hpu, hst⟩ := hp_25
                  have hst : (r_26 = 2 ∧ stpM tf tp (kyM tf tp) (i + 1) q = none) ∨ (r_26 = (if u_24.2.2.1 = true then 1 else 0) ∧ stpM tf tp (kyM tf tp) (i + 1) q = some u_24.2.2) := by unfold stpM; rw [if_neg hnt4, if_neg hmode]; exact hst
                  refine lv_goto (tgt := 158) hx hb dX1_faultOf_148 (by decide) ?_
                  refine lv_istore (lv' := [(5, .int r_26), (4, .int (nI (atA tf tp (i + 1)))), (3, .int (nI (bgA tf tp (i + 1)))), (7, .int (if isLt (tf (atA tf tp i - 1)) ∨ isDg (tf (atA tf tp i - 1)) then 1 else 0)), (0, .ref ra), (1, .ref ta), (2, .int (nI tp)), (6, .int (nI i))]) hx hb dX1_faultOf_158 hl (by decide) rfl (fun ls hl => ?_)
                  refine lv_iload hx hb dX1_faultOf_160 (lv_at hl 0 rfl) ?_
                  refine lv_iconst (v := 2) hx hb dX1_faultOf_162 (by decide) ?_
                  refine lv_icmp_ne (tgt := 168) hx hb dX1_faultOf_163 (by decide) (fun c163 => ?_) (fun c163 => ?_)
                  · obtain ⟨hrv, hsome⟩ := hst.resolve_left (fun z => c163 z.1)
                    have hl : lv_has ls 8 [(5, .int (if u_24.2.2.1 = true then 1 else 0)), (4, .int (nI (atA tf tp (i + 1)))), (3, .int (nI (bgA tf tp (i + 1)))), (7, .int (if isLt (tf (atA tf tp i - 1)) ∨ isDg (tf (atA tf tp i - 1)) then 1 else 0)), (0, .ref ra), (1, .ref ta), (2, .int (nI tp)), (6, .int (nI i))] := by rw [← hrv]; exact hl
                    refine lv_iinc (v := nI (i + 1)) (lv' := [(6, .int (nI (i + 1))), (5, .int (if u_24.2.2.1 = true then 1 else 0)), (4, .int (nI (atA tf tp (i + 1)))), (3, .int (nI (bgA tf tp (i + 1)))), (7, .int (if isLt (tf (atA tf tp i - 1)) ∨ isDg (tf (atA tf tp i - 1)) then 1 else 0)), (0, .ref ra), (1, .ref ta), (2, .int (nI tp))]) hx hb dX1_faultOf_168 hl (k := 7) rfl (nI_1 i) (by decide) rfl (fun ls hl => ?_)
                    refine lv_goto (tgt := 66) hx hb dX1_faultOf_171 (by decide) ?_
                    exact ih66 (i + 1) u_24.2.2 u_24.1 u_24.2.1 hcu hpu (okM_stp hok hsome) (by rw [hres]; show (if tkA tf tp (i + 1) = 0 then _ else _ : Int32 × MS) = _; rw [if_neg hn0, hsome]) (by omega) hn0 (by omega) (by omega) _ _ _ hw (lv_sub hl [5, 6, 7, 2, 1, 0] rfl)
                  · refine lv_iload_n hx hb dX1_faultOf_166 rfl (lv_at hl 2 rfl) ?_
                    have hnone : stpM tf tp (kyM tf tp) (i + 1) q = none := by rcases hst with z | z; exact z.2; exact absurd (z.1.symm.trans c163) (by split <;> decide)
                    exact s_iret cf hr hlk (u_24.1, u_24.2.1, u_24.2.2) hw (⟨by rw [hres]; show _ = (if tkA tf tp (i + 1) = 0 then _ else _ : Int32 × MS).1; rw [if_neg hn0, hnone], fun z => absurd z (fun y => absurd (show nI (bgA tf tp (i + 1)) < 0 by rw [y]; decide) (nI_pos (by omega)))⟩) (Nat.le_of_ble_eq_true rfl) (Nat.le_of_ble_eq_true rfl) dX1_faultOf_167 hQ
              · have hpe : bgA tf tp (i + 1) = atA tf tp i := (nI_eq (by omega) (by omega)).mp c108
                refine lv_iload hx hb dX1_faultOf_111 (lv_at hl 1 rfl) ?_
                refine lv_if_eq (tgt := 127) hx hb dX1_faultOf_113 (by decide) (fun c113 => ?_) (fun c113 => ?_)
                · have c113 := b01_z c113
                  have hnt4 : ¬ (tkA tf tp (i + 1) = 0 ∨ tkA tf tp (i + 1) = 4) := fun z => by rcases z with y | y; exact hn0 y; exact c113 ((tk4 hi0 hbt).mp y).2.1
                  refine lv_aload_n hx hb dX1_faultOf_127 rfl (lv_at hl 3 rfl) ?_
                  refine lv_iload_n hx hb dX1_faultOf_128 rfl (lv_at hl 4 rfl) ?_
                  refine lv_iload_n hx hb dX1_faultOf_129 rfl (lv_at hl 0 rfl) ?_
                  refine s_calli (runS cf (x_endOf (ta := ta) (tf := tf) (tp := tp) htp (b0 := (bgA tf tp (i + 1))) (by omega)) hw [3] (by decide) rfl km_X1_endOf ks_X1_endOf q657 rfl rfl hl.1 rfl dX1_faultOf_130) hw [3] (by decide) rfl (fun _ => rfl) (fun r_29 u_27 H locs hp_28 hw => ?_)
                  have hw : WD g A s H locs [bO ra 1 (rF rd (nI q.2.1.length) (nI q.2.2.1.length) (nI q.2.2.2.1) (nI q.2.2.2.2.1) (nI q.2.2.2.2.2) (kyM tf tp)), bI g (rd 1) 96 cz, bI g (rd 2) 96 sz, bI g ta 96 tf] := hw
                  subst hp_28
                  refine lv_topr (y := nI (atA tf tp (i + 1))) (by rw [at_s]) ?_
                  refine lv_istore (lv' := [(4, .int (nI (atA tf tp (i + 1)))), (3, .int (nI (bgA tf tp (i + 1)))), (7, .int (if isLt (tf (atA tf tp i - 1)) ∨ isDg (tf (atA tf tp i - 1)) then 1 else 0)), (0, .ref ra), (1, .ref ta), (2, .int (nI tp)), (5, .int (if q.1 = true then 1 else 0)), (6, .int (nI i))]) hx hb dX1_faultOf_133 hl (by decide) rfl (fun ls hl => ?_)
                  refine lv_iload hx hb dX1_faultOf_135 (lv_at hl 6 rfl) ?_
                  refine lv_if_ne (tgt := 151) hx hb dX1_faultOf_137 (by decide) (fun c137 => ?_) (fun c137 => ?_)
                  · have c137 := b01_n c137
                    have hmode := c137
                    refine lv_aload_n hx hb dX1_faultOf_151 rfl (lv_at hl 3 rfl) ?_
                    refine lv_aload_n hx hb dX1_faultOf_152 rfl (lv_at hl 4 rfl) ?_
                    refine lv_iload_n hx hb dX1_faultOf_153 rfl (lv_at hl 1 rfl) ?_
                    refine s_iald (j := (bgA tf tp (i + 1))) cf hw 3 rfl (rfl) (by omega) rfl dX1_faultOf_154 ?_
                    refine s_calli (runV cf (x_takeSign (ra := ra) (rd := rd) (ky := kyM tf tp) q cz sz hcz hsz hok95 (tf (bgA tf tp (i + 1)))) hw [0, 1, 2] (by decide) rfl km_X1_takeSign ki_X1_takeSign q776 (run_recv (ci := 1) (T := TX1) (N := 8) hw 0 rfl rfl) rfl rfl hl.1 rfl dX1_faultOf_155) hw [0, 1, 2] (by decide) rfl (fun _ => rfl) (fun r_32 u_30 H locs hp_31 hw => ?_)
                    have hw : WD g A s H locs [bO ra 1 (rF rd (nI u_30.2.2.2.1.length) (nI u_30.2.2.2.2.1.length) (nI u_30.2.2.2.2.2.1) (nI u_30.2.2.2.2.2.2.1) (nI u_30.2.2.2.2.2.2.2) (kyM tf tp)), bI g (rd 1) 96 u_30.1, bI g (rd 2) 96 u_30.2.1, bI g ta 96 tf] := hw
                    obtain ⟨hcu, hpu, hst⟩ := hp_31
                    have hst : (r_32 = 2 ∧ stpM tf tp (kyM tf tp) (i + 1) q = none) ∨ (r_32 = (if u_30.2.2.1 = true then 1 else 0) ∧ stpM tf tp (kyM tf tp) (i + 1) q = some u_30.2.2) := by unfold stpM; rw [if_neg hnt4, if_pos hmode]; exact hst
                    refine lv_istore (lv' := [(5, .int r_32), (4, .int (nI (atA tf tp (i + 1)))), (3, .int (nI (bgA tf tp (i + 1)))), (7, .int (if isLt (tf (atA tf tp i - 1)) ∨ isDg (tf (atA tf tp i - 1)) then 1 else 0)), (0, .ref ra), (1, .ref ta), (2, .int (nI tp)), (6, .int (nI i))]) hx hb dX1_faultOf_158 hl (by decide) rfl (fun ls hl => ?_)
                    refine lv_iload hx hb dX1_faultOf_160 (lv_at hl 0 rfl) ?_
                    refine lv_iconst (v := 2) hx hb dX1_faultOf_162 (by decide) ?_
                    refine lv_icmp_ne (tgt := 168) hx hb dX1_faultOf_163 (by decide) (fun c163 => ?_) (fun c163 => ?_)
                    · obtain ⟨hrv, hsome⟩ := hst.resolve_left (fun z => c163 z.1)
                      have hl : lv_has ls 8 [(5, .int (if u_30.2.2.1 = true then 1 else 0)), (4, .int (nI (atA tf tp (i + 1)))), (3, .int (nI (bgA tf tp (i + 1)))), (7, .int (if isLt (tf (atA tf tp i - 1)) ∨ isDg (tf (atA tf tp i - 1)) then 1 else 0)), (0, .ref ra), (1, .ref ta), (2, .int (nI tp)), (6, .int (nI i))] := by rw [← hrv]; exact hl
                      refine lv_iinc (v := nI (i + 1)) (lv' := [(6, .int (nI (i + 1))), (5, .int (if u_30.2.2.1 = true then 1 else 0)), (4, .int (nI (atA tf tp (i + 1)))), (3, .int (nI (bgA tf tp (i + 1)))), (7, .int (if isLt (tf (atA tf tp i - 1)) ∨ isDg (tf (atA tf tp i - 1)) then 1 else 0)), (0, .ref ra), (1, .ref ta), (2, .int (nI tp))]) hx hb dX1_faultOf_168 hl (k := 7) rfl (nI_1 i) (by decide) rfl (fun ls hl => ?_)
                      refine lv_goto (tgt := 66) hx hb dX1_faultOf_171 (by decide) ?_
                      exact ih66 (i + 1) u_30.2.2 u_30.1 u_30.2.1 hcu hpu (okM_stp hok hsome) (by rw [hres]; show (if tkA tf tp (i + 1) = 0 then _ else _ : Int32 × MS) = _; rw [if_neg hn0, hsome]) (by omega) hn0 (by omega) (by omega) _ _ _ hw (lv_sub hl [5, 6, 7, 2, 1, 0] rfl)
                    · refine lv_iload_n hx hb dX1_faultOf_166 rfl (lv_at hl 2 rfl) ?_
                      have hnone : stpM tf tp (kyM tf tp) (i + 1) q = none := by rcases hst with z | z; exact z.2; exact absurd (z.1.symm.trans c163) (by split <;> decide)
                      exact s_iret cf hr hlk (u_30.1, u_30.2.1, u_30.2.2) hw (⟨by rw [hres]; show _ = (if tkA tf tp (i + 1) = 0 then _ else _ : Int32 × MS).1; rw [if_neg hn0, hnone], fun z => absurd z (fun y => absurd (show nI (bgA tf tp (i + 1)) < 0 by rw [y]; decide) (nI_pos (by omega)))⟩) (Nat.le_of_ble_eq_true rfl) (Nat.le_of_ble_eq_true rfl) dX1_faultOf_167 hQ
                  · have c137 := b01_z c137
                    have hmode := c137
                    refine lv_aload_n hx hb dX1_faultOf_140 rfl (lv_at hl 3 rfl) ?_
                    refine lv_aload_n hx hb dX1_faultOf_141 rfl (lv_at hl 4 rfl) ?_
                    refine lv_iload_n hx hb dX1_faultOf_142 rfl (lv_at hl 1 rfl) ?_
                    refine lv_iload hx hb dX1_faultOf_143 (lv_at hl 0 rfl) ?_
                    refine s_calli (runV cf (x_takePiece (ra := ra) (rd := rd) (ta := ta) (tf := tf) (ky := kyM tf tp) hky3 q cz sz hcz hsz hok95 (b0 := bgA tf tp (i + 1)) (e0 := atA tf tp (i + 1)) hbe2 (by omega) hdd2) hw [0, 1, 2, 3] (by decide) rfl km_X1_takePiece ki_X1_takePiece q673 (run_recv (ci := 1) (T := TX1) (N := 8) hw 0 rfl rfl) rfl rfl hl.1 rfl dX1_faultOf_145) hw [0, 1, 2, 3] (by decide) rfl (fun _ => rfl) (fun r_35 u_33 H locs hp_34 hw => ?_)
                    have hw : WD g A s H locs [bO ra 1 (rF rd (nI u_33.2.2.2.1.length) (nI u_33.2.2.2.2.1.length) (nI u_33.2.2.2.2.2.1) (nI u_33.2.2.2.2.2.2.1) (nI u_33.2.2.2.2.2.2.2) (kyM tf tp)), bI g (rd 1) 96 u_33.1, bI g (rd 2) 96 u_33.2.1, bI g ta 96 tf] := hw
                    obtain ⟨hcu, hpu, hst⟩ := hp_34
                    have hst : (r_35 = 2 ∧ stpM tf tp (kyM tf tp) (i + 1) q = none) ∨ (r_35 = (if u_33.2.2.1 = true then 1 else 0) ∧ stpM tf tp (kyM tf tp) (i + 1) q = some u_33.2.2) := by unfold stpM; rw [if_neg hnt4, if_neg hmode]; exact hst
                    refine lv_goto (tgt := 158) hx hb dX1_faultOf_148 (by decide) ?_
                    refine lv_istore (lv' := [(5, .int r_35), (4, .int (nI (atA tf tp (i + 1)))), (3, .int (nI (bgA tf tp (i + 1)))), (7, .int (if isLt (tf (atA tf tp i - 1)) ∨ isDg (tf (atA tf tp i - 1)) then 1 else 0)), (0, .ref ra), (1, .ref ta), (2, .int (nI tp)), (6, .int (nI i))]) hx hb dX1_faultOf_158 hl (by decide) rfl (fun ls hl => ?_)
                    refine lv_iload hx hb dX1_faultOf_160 (lv_at hl 0 rfl) ?_
                    refine lv_iconst (v := 2) hx hb dX1_faultOf_162 (by decide) ?_
                    refine lv_icmp_ne (tgt := 168) hx hb dX1_faultOf_163 (by decide) (fun c163 => ?_) (fun c163 => ?_)
                    · obtain ⟨hrv, hsome⟩ := hst.resolve_left (fun z => c163 z.1)
                      have hl : lv_has ls 8 [(5, .int (if u_33.2.2.1 = true then 1 else 0)), (4, .int (nI (atA tf tp (i + 1)))), (3, .int (nI (bgA tf tp (i + 1)))), (7, .int (if isLt (tf (atA tf tp i - 1)) ∨ isDg (tf (atA tf tp i - 1)) then 1 else 0)), (0, .ref ra), (1, .ref ta), (2, .int (nI tp)), (6, .int (nI i))] := by rw [← hrv]; exact hl
                      refine lv_iinc (v := nI (i + 1)) (lv' := [(6, .int (nI (i + 1))), (5, .int (if u_33.2.2.1 = true then 1 else 0)), (4, .int (nI (atA tf tp (i + 1)))), (3, .int (nI (bgA tf tp (i + 1)))), (7, .int (if isLt (tf (atA tf tp i - 1)) ∨ isDg (tf (atA tf tp i - 1)) then 1 else 0)), (0, .ref ra), (1, .ref ta), (2, .int (nI tp))]) hx hb dX1_faultOf_168 hl (k := 7) rfl (nI_1 i) (by decide) rfl (fun ls hl => ?_)
                      refine lv_goto (tgt := 66) hx hb dX1_faultOf_171 (by decide) ?_
                      exact ih66 (i + 1) u_33.2.2 u_33.1 u_33.2.1 hcu hpu (okM_stp hok hsome) (by rw [hres]; show (if tkA tf tp (i + 1) = 0 then _ else _ : Int32 × MS) = _; rw [if_neg hn0, hsome]) (by omega) hn0 (by omega) (by omega) _ _ _ hw (lv_sub hl [5, 6, 7, 2, 1, 0] rfl)
                    · refine lv_iload_n hx hb dX1_faultOf_166 rfl (lv_at hl 2 rfl) ?_
                      have hnone : stpM tf tp (kyM tf tp) (i + 1) q = none := by rcases hst with z | z; exact z.2; exact absurd (z.1.symm.trans c163) (by split <;> decide)
                      exact s_iret cf hr hlk (u_33.1, u_33.2.1, u_33.2.2) hw (⟨by rw [hres]; show _ = (if tkA tf tp (i + 1) = 0 then _ else _ : Int32 × MS).1; rw [if_neg hn0, hnone], fun z => absurd z (fun y => absurd (show nI (bgA tf tp (i + 1)) < 0 by rw [y]; decide) (nI_pos (by omega)))⟩) (Nat.le_of_ble_eq_true rfl) (Nat.le_of_ble_eq_true rfl) dX1_faultOf_167 hQ
                · have c113 := b01_n c113
                  refine lv_aload_n hx hb dX1_faultOf_116 rfl (lv_at hl 3 rfl) ?_
                  refine lv_iload_n hx hb dX1_faultOf_117 rfl (lv_at hl 0 rfl) ?_
                  refine s_iald (j := (bgA tf tp (i + 1))) cf hw 3 rfl (rfl) (by omega) rfl dX1_faultOf_118 ?_
                  refine s_calli (runS cf (x_isWord (tf (bgA tf tp (i + 1)))) hw [] (by decide) rfl km_X1_isWord ks_X1_isWord q670 rfl rfl hl.1 rfl dX1_faultOf_119) hw [] (by decide) rfl (fun _ => rfl) (fun r_38 u_36 H locs hp_37 hw => ?_)
                  have hw : WD g A s H locs [bO ra 1 (rF rd (nI q.2.1.length) (nI q.2.2.1.length) (nI q.2.2.2.1) (nI q.2.2.2.2.1) (nI q.2.2.2.2.2) (kyM tf tp)), bI g (rd 1) 96 cz, bI g (rd 2) 96 sz, bI g ta 96 tf] := hw
                  subst hp_37
                  refine lv_if_eq (tgt := 127) hx hb dX1_faultOf_122 (by decide) (fun c122 => ?_) (fun c122 => ?_)
                  · have c122 := b01_z c122
                    have hnt4 : ¬ (tkA tf tp (i + 1) = 0 ∨ tkA tf tp (i + 1) = 4) := fun z => by rcases z with y | y; exact hn0 y; exact c122 ((tk4 hi0 hbt).mp y).2.2
                    refine lv_aload_n hx hb dX1_faultOf_127 rfl (lv_at hl 3 rfl) ?_
                    refine lv_iload_n hx hb dX1_faultOf_128 rfl (lv_at hl 4 rfl) ?_
                    refine lv_iload_n hx hb dX1_faultOf_129 rfl (lv_at hl 0 rfl) ?_
                    refine s_calli (runS cf (x_endOf (ta := ta) (tf := tf) (tp := tp) htp (b0 := (bgA tf tp (i + 1))) (by omega)) hw [3] (by decide) rfl km_X1_endOf ks_X1_endOf q657 rfl rfl hl.1 rfl dX1_faultOf_130) hw [3] (by decide) rfl (fun _ => rfl) (fun r_41 u_39 H locs hp_40 hw => ?_)
                    have hw : WD g A s H locs [bO ra 1 (rF rd (nI q.2.1.length) (nI q.2.2.1.length) (nI q.2.2.2.1) (nI q.2.2.2.2.1) (nI q.2.2.2.2.2) (kyM tf tp)), bI g (rd 1) 96 cz, bI g (rd 2) 96 sz, bI g ta 96 tf] := hw
                    subst hp_40
                    refine lv_topr (y := nI (atA tf tp (i + 1))) (by rw [at_s]) ?_
                    refine lv_istore (lv' := [(4, .int (nI (atA tf tp (i + 1)))), (3, .int (nI (bgA tf tp (i + 1)))), (7, .int (if isLt (tf (atA tf tp i - 1)) ∨ isDg (tf (atA tf tp i - 1)) then 1 else 0)), (0, .ref ra), (1, .ref ta), (2, .int (nI tp)), (5, .int (if q.1 = true then 1 else 0)), (6, .int (nI i))]) hx hb dX1_faultOf_133 hl (by decide) rfl (fun ls hl => ?_)
                    refine lv_iload hx hb dX1_faultOf_135 (lv_at hl 6 rfl) ?_
                    refine lv_if_ne (tgt := 151) hx hb dX1_faultOf_137 (by decide) (fun c137 => ?_) (fun c137 => ?_)
                    · have c137 := b01_n c137
                      have hmode := c137
                      refine lv_aload_n hx hb dX1_faultOf_151 rfl (lv_at hl 3 rfl) ?_
                      refine lv_aload_n hx hb dX1_faultOf_152 rfl (lv_at hl 4 rfl) ?_
                      refine lv_iload_n hx hb dX1_faultOf_153 rfl (lv_at hl 1 rfl) ?_
                      refine s_iald (j := (bgA tf tp (i + 1))) cf hw 3 rfl (rfl) (by omega) rfl dX1_faultOf_154 ?_
                      refine s_calli (runV cf (x_takeSign (ra := ra) (rd := rd) (ky := kyM tf tp) q cz sz hcz hsz hok95 (tf (bgA tf tp (i + 1)))) hw [0, 1, 2] (by decide) rfl km_X1_takeSign ki_X1_takeSign q776 (run_recv (ci := 1) (T := TX1) (N := 8) hw 0 rfl rfl) rfl rfl hl.1 rfl dX1_faultOf_155) hw [0, 1, 2] (by decide) rfl (fun _ => rfl) (fun r_44 u_42 H locs hp_43 hw => ?_)
                      have hw : WD g A s H locs [bO ra 1 (rF rd (nI u_42.2.2.2.1.length) (nI u_42.2.2.2.2.1.length) (nI u_42.2.2.2.2.2.1) (nI u_42.2.2.2.2.2.2.1) (nI u_42.2.2.2.2.2.2.2) (kyM tf tp)), bI g (rd 1) 96 u_42.1, bI g (rd 2) 96 u_42.2.1, bI g ta 96 tf] := hw
                      obtain ⟨hcu, hpu, hst⟩ := hp_43
                      have hst : (r_44 = 2 ∧ stpM tf tp (kyM tf tp) (i + 1) q = none) ∨ (r_44 = (if u_42.2.2.1 = true then 1 else 0) ∧ stpM tf tp (kyM tf tp) (i + 1) q = some u_42.2.2) := by unfold stpM; rw [if_neg hnt4, if_pos hmode]; exact hst
                      refine lv_istore (lv' := [(5, .int r_44), (4, .int (nI (atA tf tp (i + 1)))), (3, .int (nI (bgA tf tp (i + 1)))), (7, .int (if isLt (tf (atA tf tp i - 1)) ∨ isDg (tf (atA tf tp i - 1)) then 1 else 0)), (0, .ref ra), (1, .ref ta), (2, .int (nI tp)), (6, .int (nI i))]) hx hb dX1_faultOf_158 hl (by decide) rfl (fun ls hl => ?_)
                      refine lv_iload hx hb dX1_faultOf_160 (lv_at hl 0 rfl) ?_
                      refine lv_iconst (v := 2) hx hb dX1_faultOf_162 (by decide) ?_
                      refine lv_icmp_ne (tgt := 168) hx hb dX1_faultOf_163 (by decide) (fun c163 => ?_) (fun c163 => ?_)
                      · obtain ⟨hrv, hsome⟩ := hst.resolve_left (fun z => c163 z.1)
                        have hl : lv_has ls 8 [(5, .int (if u_42.2.2.1 = true then 1 else 0)), (4, .int (nI (atA tf tp (i + 1)))), (3, .int (nI (bgA tf tp (i + 1)))), (7, .int (if isLt (tf (atA tf tp i - 1)) ∨ isDg (tf (atA tf tp i - 1)) then 1 else 0)), (0, .ref ra), (1, .ref ta), (2, .int (nI tp)), (6, .int (nI i))] := by rw [← hrv]; exact hl
                        refine lv_iinc (v := nI (i + 1)) (lv' := [(6, .int (nI (i + 1))), (5, .int (if u_42.2.2.1 = true then 1 else 0)), (4, .int (nI (atA tf tp (i + 1)))), (3, .int (nI (bgA tf tp (i + 1)))), (7, .int (if isLt (tf (atA tf tp i - 1)) ∨ isDg (tf (atA tf tp i - 1)) then 1 else 0)), (0, .ref ra), (1, .ref ta), (2, .int (nI tp))]) hx hb dX1_faultOf_168 hl (k := 7) rfl (nI_1 i) (by decide) rfl (fun ls hl => ?_)
                        refine lv_goto (tgt := 66) hx hb dX1_faultOf_171 (by decide) ?_
                        exact ih66 (i + 1) u_42.2.2 u_42.1 u_42.2.1 hcu hpu (okM_stp hok hsome) (by rw [hres]; show (if tkA tf tp (i + 1) = 0 then _ else _ : Int32 × MS) = _; rw [if_neg hn0, hsome]) (by omega) hn0 (by omega) (by omega) _ _ _ hw (lv_sub hl [5, 6, 7, 2, 1, 0] rfl)
                      · refine lv_iload_n hx hb dX1_faultOf_166 rfl (lv_at hl 2 rfl) ?_
                        have hnone : stpM tf tp (kyM tf tp) (i + 1) q = none := by rcases hst with z | z; exact z.2; exact absurd (z.1.symm.trans c163) (by split <;> decide)
                        exact s_iret cf hr hlk (u_42.1, u_42.2.1, u_42.2.2) hw (⟨by rw [hres]; show _ = (if tkA tf tp (i + 1) = 0 then _ else _ : Int32 × MS).1; rw [if_neg hn0, hnone], fun z => absurd z (fun y => absurd (show nI (bgA tf tp (i + 1)) < 0 by rw [y]; decide) (nI_pos (by omega)))⟩) (Nat.le_of_ble_eq_true rfl) (Nat.le_of_ble_eq_true rfl) dX1_faultOf_167 hQ
                    · have c137 := b01_z c137
                      have hmode := c137
                      refine lv_aload_n hx hb dX1_faultOf_140 rfl (lv_at hl 3 rfl) ?_
                      refine lv_aload_n hx hb dX1_faultOf_141 rfl (lv_at hl 4 rfl) ?_
                      refine lv_iload_n hx hb dX1_faultOf_142 rfl (lv_at hl 1 rfl) ?_
                      refine lv_iload hx hb dX1_faultOf_143 (lv_at hl 0 rfl) ?_
                      refine s_calli (runV cf (x_takePiece (ra := ra) (rd := rd) (ta := ta) (tf := tf) (ky := kyM tf tp) hky3 q cz sz hcz hsz hok95 (b0 := bgA tf tp (i + 1)) (e0 := atA tf tp (i + 1)) hbe2 (by omega) hdd2) hw [0, 1, 2, 3] (by decide) rfl km_X1_takePiece ki_X1_takePiece q673 (run_recv (ci := 1) (T := TX1) (N := 8) hw 0 rfl rfl) rfl rfl hl.1 rfl dX1_faultOf_145) hw [0, 1, 2, 3] (by decide) rfl (fun _ => rfl) (fun r_47 u_45 H locs hp_46 hw => ?_)
                      have hw : WD g A s H locs [bO ra 1 (rF rd (nI u_45.2.2.2.1.length) (nI u_45.2.2.2.2.1.length) (nI u_45.2.2.2.2.2.1) (nI u_45.2.2.2.2.2.2.1) (nI u_45.2.2.2.2.2.2.2) (kyM tf tp)), bI g (rd 1) 96 u_45.1, bI g (rd 2) 96 u_45.2.1, bI g ta 96 tf] := hw
                      obtain ⟨hcu, hpu, hst⟩ := hp_46
                      have hst : (r_47 = 2 ∧ stpM tf tp (kyM tf tp) (i + 1) q = none) ∨ (r_47 = (if u_45.2.2.1 = true then 1 else 0) ∧ stpM tf tp (kyM tf tp) (i + 1) q = some u_45.2.2) := by unfold stpM; rw [if_neg hnt4, if_neg hmode]; exact hst
                      refine lv_goto (tgt := 158) hx hb dX1_faultOf_148 (by decide) ?_
                      refine lv_istore (lv' := [(5, .int r_47), (4, .int (nI (atA tf tp (i + 1)))), (3, .int (nI (bgA tf tp (i + 1)))), (7, .int (if isLt (tf (atA tf tp i - 1)) ∨ isDg (tf (atA tf tp i - 1)) then 1 else 0)), (0, .ref ra), (1, .ref ta), (2, .int (nI tp)), (6, .int (nI i))]) hx hb dX1_faultOf_158 hl (by decide) rfl (fun ls hl => ?_)
                      refine lv_iload hx hb dX1_faultOf_160 (lv_at hl 0 rfl) ?_
                      refine lv_iconst (v := 2) hx hb dX1_faultOf_162 (by decide) ?_
                      refine lv_icmp_ne (tgt := 168) hx hb dX1_faultOf_163 (by decide) (fun c163 => ?_) (fun c163 => ?_)
                      · obtain ⟨hrv, hsome⟩ := hst.resolve_left (fun z => c163 z.1)
                        have hl : lv_has ls 8 [(5, .int (if u_45.2.2.1 = true then 1 else 0)), (4, .int (nI (atA tf tp (i + 1)))), (3, .int (nI (bgA tf tp (i + 1)))), (7, .int (if isLt (tf (atA tf tp i - 1)) ∨ isDg (tf (atA tf tp i - 1)) then 1 else 0)), (0, .ref ra), (1, .ref ta), (2, .int (nI tp)), (6, .int (nI i))] := by rw [← hrv]; exact hl
                        refine lv_iinc (v := nI (i + 1)) (lv' := [(6, .int (nI (i + 1))), (5, .int (if u_45.2.2.1 = true then 1 else 0)), (4, .int (nI (atA tf tp (i + 1)))), (3, .int (nI (bgA tf tp (i + 1)))), (7, .int (if isLt (tf (atA tf tp i - 1)) ∨ isDg (tf (atA tf tp i - 1)) then 1 else 0)), (0, .ref ra), (1, .ref ta), (2, .int (nI tp))]) hx hb dX1_faultOf_168 hl (k := 7) rfl (nI_1 i) (by decide) rfl (fun ls hl => ?_)
                        refine lv_goto (tgt := 66) hx hb dX1_faultOf_171 (by decide) ?_
                        exact ih66 (i + 1) u_45.2.2 u_45.1 u_45.2.1 hcu hpu (okM_stp hok hsome) (by rw [hres]; show (if tkA tf tp (i + 1) = 0 then _ else _ : Int32 × MS) = _; rw [if_neg hn0, hsome]) (by omega) hn0 (by omega) (by omega) _ _ _ hw (lv_sub hl [5, 6, 7, 2, 1, 0] rfl)
                      · refine lv_iload_n hx hb dX1_faultOf_166 rfl (lv_at hl 2 rfl) ?_
                        have hnone : stpM tf tp (kyM tf tp) (i + 1) q = none := by rcases hst with z | z; exact z.2; exact absurd (z.1.symm.trans c163) (by split <;> decide)
                        exact s_iret cf hr hlk (u_45.1, u_45.2.1, u_45.2.2) hw (⟨by rw [hres]; show _ = (if tkA tf tp (i + 1) = 0 then _ else _ : Int32 × MS).1; rw [if_neg hn0, hnone], fun z => absurd z (fun y => absurd (show nI (bgA tf tp (i + 1)) < 0 by rw [y]; decide) (nI_pos (by omega)))⟩) (Nat.le_of_ble_eq_true rfl) (Nat.le_of_ble_eq_true rfl) dX1_faultOf_167 hQ
                  · have c122 := b01_n c122
                    refine lv_iload_n hx hb dX1_faultOf_125 rfl (lv_at hl 0 rfl) ?_
                    exact s_iret cf hr hlk (cz, sz, q) hw (⟨by rw [hres]; show _ = (if tkA tf tp (i + 1) = 0 then _ else _ : Int32 × MS).1; rw [if_neg hn0, show stpM tf tp (kyM tf tp) (i + 1) q = none from if_pos (Or.inr ((tk4 hi0 hbt).mpr ⟨hpe, c113, c122⟩))], fun z => absurd z (fun y => absurd (show nI (bgA tf tp (i + 1)) < 0 by rw [y]; decide) (nI_pos (by omega)))⟩) (Nat.le_of_ble_eq_true rfl) (Nat.le_of_ble_eq_true rfl) dX1_faultOf_126 hQ
            · have hbt2 : bgA tf tp (i + 1) = tp := by rw [nI_ltI (by omega) (by omega)] at c99; omega
              have hfin : tkA tf tp (i + 1) = 0 := tk0.mpr hbt2
              refine lv_goto (tgt := 174) hx hb dX1_faultOf_102 (by decide) ?_
              refine lv_iload hx hb dX1_faultOf_174 (lv_at hl 6 rfl) ?_
              refine lv_if_eq (tgt := 186) hx hb dX1_faultOf_176 (by decide) (fun c176 => ?_) (fun c176 => ?_)
              · have c176 := b01_z c176
                refine lv_iload_n hx hb dX1_faultOf_186 rfl (lv_at hl 4 rfl) ?_
                exact s_iret cf hr hlk (cz, sz, q) hw (⟨by rw [hres]; show _ = (if tkA tf tp (i + 1) = 0 then _ else _ : Int32 × MS).1; rw [if_pos hfin]; unfold finM; rw [if_pos (Or.inl (by simpa using c176))], fun z => absurd z (fun y => absurd (show nI tp < 0 by rw [y]; decide) (nI_pos (by omega)))⟩) (Nat.le_of_ble_eq_true rfl) (Nat.le_of_ble_eq_true rfl) dX1_faultOf_187 hQ
              · have c176 := b01_n c176
                refine lv_aload_n hx hb dX1_faultOf_179 rfl (lv_at hl 2 rfl) ?_
                refine s_get (v := .int (nI q.2.2.2.1)) fb1 cf hw 0 rfl 4 rfl q227 rfl dX1_faultOf_180 ?_
                refine lv_if_le (tgt := 188) hx hb dX1_faultOf_183 (by decide) (fun c183 => ?_) (fun c183 => ?_)
                · have hbr : ¬ 0 < q.2.2.2.1 := fun z => absurd c183 (nI_nle z (by have := hok.2.2.2; omega))
                  refine lv_aload_n hx hb dX1_faultOf_188 rfl (lv_at hl 2 rfl) ?_
                  refine lv_iconst (v := 1) hx hb dX1_faultOf_189 (by decide) ?_
                  refine s_callv (runV cf (x_closeD (ra := ra) (rd := rd) (ky := kyM tf tp) (b_ := nI q.2.2.2.1) (n_ := nI q.2.2.2.2.1) (p_ := nI q.2.2.2.2.2) q.2.1 q.2.2.1 cz sz hcz hsz (by have := hok95.1; omega) 1 (by omega)) hw [0, 1, 2] (by decide) rfl km_X1_closeDownTo ki_X1_closeDownTo q784 (run_recv (ci := 1) (T := TX1) (N := 8) hw 0 rfl rfl) rfl rfl hl.1 rfl dX1_faultOf_190) hw [0, 1, 2] (by decide) rfl (fun _ => rfl) (fun u_48 H locs hp_49 hw => ?_)
                  have hw : WD g A s H locs [bO ra 1 (rF rd (nI (closeD 1 q.2.1 q.2.2.1).1.length) (nI (closeD 1 q.2.1 q.2.2.1).2.length) (nI q.2.2.2.1) (nI q.2.2.2.2.1) (nI q.2.2.2.2.2) (kyM tf tp)), bI g (rd 1) 96 u_48, bI g (rd 2) 96 sz, bI g ta 96 tf] := hw
                  have hcD := hp_49
                  refine lv_iconst (v := (-1)) hx hb dX1_faultOf_193 (by decide) ?_
                  have hend : (fltM tf tp) = (-1, (true, (closeD 1 q.2.1 q.2.2.1).1, (closeD 1 q.2.1 q.2.2.1).2, q.2.2.2.1, q.2.2.2.2.1, q.2.2.2.2.2)) := by rw [hres]; show (if tkA tf tp (i + 1) = 0 then finM tp q else _ : Int32 × MS) = _; rw [if_pos hfin]; unfold finM; rw [if_neg (fun z => by rcases z with y | y; rw [y] at c176; exact absurd c176 (by decide); exact hbr y)]
                  exact s_iret cf hr hlk (u_48, sz, (true, (closeD 1 q.2.1 q.2.2.1).1, (closeD 1 q.2.1 q.2.2.1).2, q.2.2.2.1, q.2.2.2.2.1, q.2.2.2.2.2)) hw (⟨by rw [hend], fun _ => by rw [hend]; exact ⟨rfl, hcD.1⟩⟩) (Nat.le_of_ble_eq_true rfl) (Nat.le_of_ble_eq_true rfl) dX1_faultOf_194 hQ
                · have hbr : 0 < q.2.2.2.1 := by rcases Nat.eq_zero_or_pos q.2.2.2.1 with z | z; exact absurd (by rw [z]; decide) c183; exact z
                  refine lv_iload_n hx hb dX1_faultOf_186 rfl (lv_at hl 4 rfl) ?_
                  exact s_iret cf hr hlk (cz, sz, q) hw (⟨by rw [hres]; show _ = (if tkA tf tp (i + 1) = 0 then _ else _ : Int32 × MS).1; rw [if_pos hfin]; unfold finM; rw [if_pos (Or.inr hbr)], fun z => absurd z (fun y => absurd (show nI tp < 0 by rw [y]; decide) (nI_pos (by omega)))⟩) (Nat.le_of_ble_eq_true rfl) (Nat.le_of_ble_eq_true rfl) dX1_faultOf_187 hQ
    exact L66 97 0 q0M cz sz CR.nil PR.nil (⟨Nat.le_refl _, Nat.le_refl _, by decide, by decide⟩) (by unfold fltM; rw [if_neg (Int32.not_lt.mpr c55)]) hkl.1 (by rw [hkl.2]; decide) (by omega) (by omega) _ _ _ hw (lv_sub hl [4, 5, 6, 2, 1, 0] rfl)
  · refine lv_iload_n hx hb dX1_faultOf_58 rfl (lv_at hl 1 rfl) ?_
    exact s_iret cf hr hlk (cz, sz, q0M) hw (⟨by unfold fltM; rw [if_pos (Int32.not_le.mp c55)], fun z => absurd z (fun y => absurd (show nI (bgA tf tp 0) < 0 by rw [y]; decide) (nI_pos (by omega)))⟩) (Nat.le_of_ble_eq_true rfl) (Nat.le_of_ble_eq_true rfl) dX1_faultOf_59 hQ
