set_option maxRecDepth 100000 in
set_option maxHeartbeats 4000000 in
theorem c_copy {l : Launch} {g : GG} {t : Nat} {lad : Nat → Nat} {o t2 t3 : Nat} {ch : Nat → Nat} {kp tp wt : Int32} {sa pa : Nat → Nat} {so sz nu isn : DD} {pl : Nat → DD} (hsh : ShOK so sz pl nu isn) (f_ p_ t_ q_ m_ : Int32) : Ct l g yX6_copy cX6_copy 8 (Option.some Jvm.ClassFile.FieldType.int) 1 0 0 [.ref o, .int f_, .int p_, .int t_, .int q_, .int m_] [bO o 6 (cF (lad 0) t t3 t2 ch kp tp wt), bR g 2 (ch 8) 4 (fun k => some (sa k)), shB g sa pa so sz pl] (QI g (fun r (_ : Unit) => r = R_copy so sz f_ p_ t_ q_ m_) (fun _ => [bO o 6 (cF (lad 0) t t3 t2 ch kp tp wt), bR g 2 (ch 8) 4 (fun k => some (sa k)), shB g sa pa so sz (D_copyP so sz pl f_ p_ t_ q_ m_)])) := by
  refine Ct.of (by decide) rfl ?_
  intro p e s m args below meth c A H locs ls Qf cf hr hlk hnm hQ hw hl
  have hx := cf.1
  have hb := cf.2.1
  have hml := cf.2.2.1
  have hown := cf.2.2.2.1
  have hts := cf.2.2.2.2
  have hw : WD g A s H locs [bO o 6 (cF (lad 0) t t3 t2 ch kp tp wt), bR g 2 (ch 8) 4 (fun k => some (sa k)), shB g sa pa so sz pl] := hw
  have hl : lv_has ls 8 [(0, .ref o), (1, .int f_), (2, .int p_), (3, .int t_), (4, .int q_), (5, .int m_)] := hl
  refine lv_aload_n hx hb dX6_copy_0 rfl (lv_at hl 0 rfl) ?_
  refine lv_iload_n hx hb dX6_copy_1 rfl (lv_at hl 1 rfl) ?_
  refine s_callq (runV cf (x_sheetAt (t := t) (lad := lad) (o := o) (t2 := t2) (t3 := t3) (ch := ch) (kp := kp) (tp := tp) (wt := wt) (sa := sa) f_) hw [0, 1] (by decide) rfl km_X6_sheetAt ki_X6_sheetAt q596 (run_recv (ci := 6) (T := TX6) (N := 13) hw 0 rfl rfl) rfl rfl hl.1 rfl dX6_copy_2) hw [0, 1] (by decide) rfl (fun _ => rfl) (fun r_3 u_1 H locs hp_2 hw => ?_)
  have hw : WD g A s H locs [bO o 6 (cF (lad 0) t t3 t2 ch kp tp wt), bR g 2 (ch 8) 4 (fun k => some (sa k)), shB g sa pa so sz pl] := hw
  subst hp_2
  by_cases hS : 0 ≤ f_ ∧ f_ ≤ 3
  · obtain ⟨j, hj3, hjx⟩ := rng_nat (m := 3) (by omega) hS.1 hS.2
    have hclj : (f_).toNatClampNeg = j := by rw [hjx]; exact nI_clamp (by omega)
    refine lv_topv (y := .ref (sa j)) (by rw [if_pos hS, hclj]; rfl) ?_
    refine lv_astore (lv' := [(6, .ref (sa j)), (0, .ref o), (1, .int f_), (2, .int p_), (3, .int t_), (4, .int q_), (5, .int m_)]) hx hb dX6_copy_5 hl (by decide) rfl (fun ls hl => ?_)
    refine lv_aload_n hx hb dX6_copy_7 rfl (lv_at hl 1 rfl) ?_
    refine lv_iload_n hx hb dX6_copy_8 rfl (lv_at hl 4 rfl) ?_
    refine s_callq (runV cf (x_sheetAt (t := t) (lad := lad) (o := o) (t2 := t2) (t3 := t3) (ch := ch) (kp := kp) (tp := tp) (wt := wt) (sa := sa) t_) hw [0, 1] (by decide) rfl km_X6_sheetAt ki_X6_sheetAt q596 (run_recv (ci := 6) (T := TX6) (N := 13) hw 0 rfl rfl) rfl rfl hl.1 rfl dX6_copy_9) hw [0, 1] (by decide) rfl (fun _ => rfl) (fun r_6 u_4 H locs hp_5 hw => ?_)
    have hw : WD g A s H locs [bO o 6 (cF (lad 0) t t3 t2 ch kp tp wt), bR g 2 (ch 8) 4 (fun k => some (sa k)), shB g sa pa so sz pl] := hw
    subst hp_5
    by_cases hT : 0 ≤ t_ ∧ t_ ≤ 3
    · obtain ⟨k, hk3, hkx⟩ := rng_nat (m := 3) (by omega) hT.1 hT.2
      have hclk : (t_).toNatClampNeg = k := by rw [hkx]; exact nI_clamp (by omega)
      refine lv_topv (y := .ref (sa k)) (by rw [if_pos hT, hclk]; rfl) ?_
      refine lv_astore (lv' := [(7, .ref (sa k)), (6, .ref (sa j)), (0, .ref o), (1, .int f_), (2, .int p_), (3, .int t_), (4, .int q_), (5, .int m_)]) hx hb dX6_copy_12 hl (by decide) rfl (fun ls hl => ?_)
      refine lv_aload hx hb dX6_copy_14 (lv_at hl 1 rfl) ?_
      refine lv_ifnull hx hb dX6_copy_16 ?_
      refine lv_aload hx hb dX6_copy_19 (lv_at hl 0 rfl) ?_
      refine lv_ifnonnull (tgt := 27) hx hb dX6_copy_21 (by decide) ?_
      obtain ⟨m1, hm124, hm1⟩ := (hsh j (by omega)).2.1
      obtain ⟨m2, hm224, hm2⟩ := (hsh k (by omega)).2.1
      by_cases hjk : k = j
      · subst hjk
        have hw : WD g A s H locs [bO o 6 (cF (lad 0) t t3 t2 ch kp tp wt), bR g 2 (ch 8) 4 (fun k => some (sa k)), bO (sa k) 2 ([.ref (pa k), .int (so k), .int (sz k)]), bI g (pa k) 24 (pl k), cEx (shC g sa pa so sz pl) k 4] := WD.opnM (pre := [bO o 6 (cF (lad 0) t t3 t2 ch kp tp wt), bR g 2 (ch 8) 4 (fun k => some (sa k))]) (post := []) hw (sh_opn (j := k) (by omega))
        have hw : WD g A s H locs [bO o 6 (cF (lad 0) t t3 t2 ch kp tp wt), bR g 2 (ch 8) 4 (fun k => some (sa k)), bO (sa k) 2 ([.ref (pa k), .int (so k), .int (nI m2)]), bI g (pa k) 24 (pl k), cEx (shC g sa pa so sz pl) k 4] := by rw [← hm2]; exact hw
        refine lv_aload hx hb dX6_copy_27 (lv_at hl 1 rfl) ?_
        refine s_getN (v := .int (so k)) fb2 cf hw 2 rfl 1 rfl q261 rfl dX6_copy_29 ?_
        refine lv_iconst (v := (-1)) hx hb dX6_copy_32 (by decide) ?_
        refine lv_icmp_eq (tgt := 45) hx hb dX6_copy_33 (by decide) (fun c33 => ?_) (fun c33 => ?_)
        · refine lv_ldc hx hb hown (hts _ q600) dX6_copy_45 ?_
          have hw : WD g A s H locs [bO o 6 (cF (lad 0) t t3 t2 ch kp tp wt), bR g 2 (ch 8) 4 (fun k => some (sa k)), bO (sa k) 2 ([.ref (pa k), .int (so k), .int (sz k)]), bI g (pa k) 24 (pl k), cEx (shC g sa pa so sz pl) k 4] := by rw [hm2]; exact hw
          have hw : WD g A s H locs [bO o 6 (cF (lad 0) t t3 t2 ch kp tp wt), bR g 2 (ch 8) 4 (fun k => some (sa k)), shB g sa pa so sz pl] := WD.clsM (pre := [bO o 6 (cF (lad 0) t t3 t2 ch kp tp wt), bR g 2 (ch 8) 4 (fun k => some (sa k))]) (post := []) hw (sh_opn (j := k) (by omega))
          have hng : so k < 0 ∨ so k < 0 := Or.inl ((so_neg hsh (by omega)).mp c33)
          exact s_iret cf hr hlk () (by have q : D_copyP so sz pl f_ p_ t_ q_ m_ = pl := if_neg (fun z => z.2.1 (by rw [hclj, hclk]; exact hng)); rw [q]; exact hw) (by unfold R_copy; rw [if_pos ⟨hS, hT⟩, hclj, hclk, if_pos hng]) (Nat.le_of_ble_eq_true rfl) (Nat.le_of_ble_eq_true rfl) dX6_copy_47 hQ
        · refine lv_aload hx hb dX6_copy_36 (lv_at hl 0 rfl) ?_
          refine s_getN (v := .int (so k)) fb2 cf hw 2 rfl 1 rfl q261 rfl dX6_copy_38 ?_
          refine lv_iconst (v := (-1)) hx hb dX6_copy_41 (by decide) ?_
          refine lv_icmp_ne (tgt := 48) hx hb dX6_copy_42 (by decide) (fun c42 => ?_) (fun c42 => ?_)
          · refine lv_aload hx hb dX6_copy_48 (lv_at hl 1 rfl) ?_
            refine s_getN (v := .int (so k)) fb2 cf hw 2 rfl 1 rfl q261 rfl dX6_copy_50 ?_
            refine lv_aload hx hb dX6_copy_53 (lv_at hl 0 rfl) ?_
            refine s_getN (v := .int (so k)) fb2 cf hw 2 rfl 1 rfl q261 rfl dX6_copy_55 ?_
            refine lv_icmp_eq (tgt := 64) hx hb dX6_copy_58 (by decide) (fun c58 => ?_) (fun c58 => ?_)
            · refine lv_aload hx hb dX6_copy_64 (lv_at hl 1 rfl) ?_
              refine lv_iload_n hx hb dX6_copy_66 rfl (lv_at hl 4 rfl) ?_
              refine lv_iload hx hb dX6_copy_67 (lv_at hl 7 rfl) ?_
              refine s_calli (runVN cf (x_hasMany (sx := sa k) (px := pa k) (so_ := so k) (m_ := m2) hm224 p_ m_) hw [2] (by decide) rfl km_X2_hasMany ki_X2_hasMany q859 (run_recv (ci := 2) (T := TX2) (N := 3) hw 2 rfl rfl) rfl rfl hl.1 rfl dX6_copy_69) hw [2] (by decide) rfl (fun _ => rfl) (fun r_9 u_7 H locs hp_8 hw => ?_)
              have hw : WD g A s H locs [bO o 6 (cF (lad 0) t t3 t2 ch kp tp wt), bR g 2 (ch 8) 4 (fun k => some (sa k)), bO (sa k) 2 ([.ref (pa k), .int (so k), .int (nI m2)]), bI g (pa k) 24 (pl k), cEx (shC g sa pa so sz pl) k 4] := hw
              subst hp_8
              refine lv_if_eq (tgt := 87) hx hb dX6_copy_72 (by decide) (fun c72 => ?_) (fun c72 => ?_)
              · have c72 := b01_z c72
                refine lv_ldc hx hb hown (hts _ q844) dX6_copy_87 ?_
                have hw : WD g A s H locs [bO o 6 (cF (lad 0) t t3 t2 ch kp tp wt), bR g 2 (ch 8) 4 (fun k => some (sa k)), bO (sa k) 2 ([.ref (pa k), .int (so k), .int (sz k)]), bI g (pa k) 24 (pl k), cEx (shC g sa pa so sz pl) k 4] := by rw [hm2]; exact hw
                have hw : WD g A s H locs [bO o 6 (cF (lad 0) t t3 t2 ch kp tp wt), bR g 2 (ch 8) 4 (fun k => some (sa k)), shB g sa pa so sz pl] := WD.clsM (pre := [bO o 6 (cF (lad 0) t t3 t2 ch kp tp wt), bR g 2 (ch 8) 4 (fun k => some (sa k))]) (post := []) hw (sh_opn (j := k) (by omega))
                have hng : ¬ (so k < 0 ∨ so k < 0) := fun z => by rcases z with z | z; exact c33 ((so_neg hsh (by omega)).mpr z); exact c42 ((so_neg hsh (by omega)).mpr z)
                have hix : ¬ (okIx p_ m_ (sz k) ∧ okIx q_ m_ (sz k)) := fun z => c72 (by rw [← hm2]; exact z.1)
                exact s_iret cf hr hlk () (by have q : D_copyP so sz pl f_ p_ t_ q_ m_ = pl := if_neg (fun z => hix (by have h3 := z.2.2.2; rw [hclj, hclk] at h3; exact h3)); rw [q]; exact hw) (by unfold R_copy; rw [if_pos ⟨hS, hT⟩, hclj, hclk, if_neg hng, if_pos c58, if_neg hix]) (Nat.le_of_ble_eq_true rfl) (Nat.le_of_ble_eq_true rfl) dX6_copy_89 hQ
              · have c72 := b01_n c72
                refine lv_aload hx hb dX6_copy_75 (lv_at hl 0 rfl) ?_
                refine lv_iload hx hb dX6_copy_77 (lv_at hl 6 rfl) ?_
                refine lv_iload hx hb dX6_copy_79 (lv_at hl 7 rfl) ?_
                refine s_calli (runVN cf (x_hasMany (sx := sa k) (px := pa k) (so_ := so k) (m_ := m2) hm224 q_ m_) hw [2] (by decide) rfl km_X2_hasMany ki_X2_hasMany q859 (run_recv (ci := 2) (T := TX2) (N := 3) hw 2 rfl rfl) rfl rfl hl.1 rfl dX6_copy_81) hw [2] (by decide) rfl (fun _ => rfl) (fun r_12 u_10 H locs hp_11 hw => ?_)
                have hw : WD g A s H locs [bO o 6 (cF (lad 0) t t3 t2 ch kp tp wt), bR g 2 (ch 8) 4 (fun k => some (sa k)), bO (sa k) 2 ([.ref (pa k), .int (so k), .int (nI m2)]), bI g (pa k) 24 (pl k), cEx (shC g sa pa so sz pl) k 4] := hw
                subst hp_11
                refine lv_if_ne (tgt := 90) hx hb dX6_copy_84 (by decide) (fun c84 => ?_) (fun c84 => ?_)
                · have c84 := b01_n c84
                  obtain ⟨pn, mn, hpm, hpx, hmx⟩ := okIx_nat (s := nI m2) rfl (by omega) c72
                  obtain ⟨qn, mn2, hqm, hqx, hmx2⟩ := okIx_nat (s := nI m2) rfl (by omega) c84
                  have hmm : mn2 = mn := (nI_eq (by omega) (by omega)).mp (hmx2.symm.trans hmx)
                  have hclp : p_.toNatClampNeg = pn := by rw [hpx]; exact nI_clamp (by omega)
                  have hclq : q_.toNatClampNeg = qn := by rw [hqx]; exact nI_clamp (by omega)
                  have hclm : m_.toNatClampNeg = mn := by rw [hmx]; exact nI_clamp (by omega)
                  refine lv_aload hx hb dX6_copy_90 (lv_at hl 1 rfl) ?_
                  refine s_getN (v := .ref (pa k)) fb2 cf hw 2 rfl 0 rfl q259 rfl dX6_copy_92 ?_
                  refine lv_iload_n hx hb dX6_copy_95 rfl (lv_at hl 4 rfl) ?_
                  refine lv_aload hx hb dX6_copy_96 (lv_at hl 0 rfl) ?_
                  refine s_getN (v := .ref (pa k)) fb2 cf hw 2 rfl 0 rfl q259 rfl dX6_copy_98 ?_
                  refine lv_iload hx hb dX6_copy_101 (lv_at hl 6 rfl) ?_
                  refine lv_iload hx hb dX6_copy_103 (lv_at hl 7 rfl) ?_
                  refine s_copyi pn qn mn cf (by rw [hml]; exact hl.1.symm) hw q863 3 3 rfl rfl rfl rfl (hpx) (hqx) (hmx) (by omega) (by omega) rfl rfl dX6_copy_105 (fun H locs hw => ?_)
                  have hw : WD g A s H locs [bO o 6 (cF (lad 0) t t3 t2 ch kp tp wt), bR g 2 (ch 8) 4 (fun k => some (sa k)), bO (sa k) 2 ([.ref (pa k), .int (so k), .int (nI m2)]), bI g (pa k) 24 (va_cpy (pl k) (pl k) pn qn mn), cEx (shC g sa pa so sz pl) k 4] := hw
                  refine lv_iload hx hb dX6_copy_108 (lv_at hl 7 rfl) ?_
                  have hng : ¬ (so k < 0 ∨ so k < 0) := fun z => by rcases z with z | z; exact c33 ((so_neg hsh (by omega)).mpr z); exact c42 ((so_neg hsh (by omega)).mpr z)
                  have hix : okIx p_ m_ (sz k) ∧ okIx q_ m_ (sz k) := ⟨by rw [hm2]; exact c72, by rw [hm2]; exact c84⟩
                  have hok : okCopy so sz f_ p_ t_ q_ m_ := ⟨⟨hS, hT⟩, by rw [hclj, hclk]; exact hng, by rw [hclj, hclk], by rw [hclj, hclk]; exact hix⟩
                  have hw : WD g A s H locs [bO o 6 (cF (lad 0) t t3 t2 ch kp tp wt), bR g 2 (ch 8) 4 (fun k => some (sa k)), bO (sa k) 2 ([.ref (pa k), .int (so k), .int (sz k)]), bI g (pa k) 24 (va_cpy (pl k) (pl k) pn qn mn), cEx (shC g sa pa so sz pl) k 4] := by rw [hm2]; exact hw
                  have hw : WD g A s H locs [bO o 6 (cF (lad 0) t t3 t2 ch kp tp wt), bR g 2 (ch 8) 4 (fun k => some (sa k)), shB g sa pa so sz (updP pl k (va_cpy (pl k) (pl k) pn qn mn))] := WD.clsM (pre := [bO o 6 (cF (lad 0) t t3 t2 ch kp tp wt), bR g 2 (ch 8) 4 (fun k => some (sa k))]) (post := []) hw (sh_clp (j := k) (by omega))
                  exact s_iret cf hr hlk () (by have q : D_copyP so sz pl f_ p_ t_ q_ m_ = updP pl k (va_cpy (pl k) (pl k) pn qn mn) := (if_pos hok).trans (by rw [hclj, hclk, hclp, hclq, hclm]); rw [q]; exact hw) (by unfold R_copy; rw [if_pos ⟨hS, hT⟩, hclj, hclk, if_neg hng, if_pos c58, if_pos hix]) (Nat.le_of_ble_eq_true rfl) (Nat.le_of_ble_eq_true rfl) dX6_copy_110 hQ
                · have c84 := b01_z c84
                  refine lv_ldc hx hb hown (hts _ q844) dX6_copy_87 ?_
                  have hw : WD g A s H locs [bO o 6 (cF (lad 0) t t3 t2 ch kp tp wt), bR g 2 (ch 8) 4 (fun k => some (sa k)), bO (sa k) 2 ([.ref (pa k), .int (so k), .int (sz k)]), bI g (pa k) 24 (pl k), cEx (shC g sa pa so sz pl) k 4] := by rw [hm2]; exact hw
                  have hw : WD g A s H locs [bO o 6 (cF (lad 0) t t3 t2 ch kp tp wt), bR g 2 (ch 8) 4 (fun k => some (sa k)), shB g sa pa so sz pl] := WD.clsM (pre := [bO o 6 (cF (lad 0) t t3 t2 ch kp tp wt), bR g 2 (ch 8) 4 (fun k => some (sa k))]) (post := []) hw (sh_opn (j := k) (by omega))
                  have hng : ¬ (so k < 0 ∨ so k < 0) := fun z => by rcases z with z | z; exact c33 ((so_neg hsh (by omega)).mpr z); exact c42 ((so_neg hsh (by omega)).mpr z)
                  have hix : ¬ (okIx p_ m_ (sz k) ∧ okIx q_ m_ (sz k)) := fun z => c84 (by rw [← hm2]; exact z.2)
                  exact s_iret cf hr hlk () (by have q : D_copyP so sz pl f_ p_ t_ q_ m_ = pl := if_neg (fun z => hix (by have h3 := z.2.2.2; rw [hclj, hclk] at h3; exact h3)); rw [q]; exact hw) (by unfold R_copy; rw [if_pos ⟨hS, hT⟩, hclj, hclk, if_neg hng, if_pos c58, if_neg hix]) (Nat.le_of_ble_eq_true rfl) (Nat.le_of_ble_eq_true rfl) dX6_copy_89 hQ
            · refine lv_ldc hx hb hown (hts _ q441) dX6_copy_61 ?_
              have hw : WD g A s H locs [bO o 6 (cF (lad 0) t t3 t2 ch kp tp wt), bR g 2 (ch 8) 4 (fun k => some (sa k)), bO (sa k) 2 ([.ref (pa k), .int (so k), .int (sz k)]), bI g (pa k) 24 (pl k), cEx (shC g sa pa so sz pl) k 4] := by rw [hm2]; exact hw
              have hw : WD g A s H locs [bO o 6 (cF (lad 0) t t3 t2 ch kp tp wt), bR g 2 (ch 8) 4 (fun k => some (sa k)), shB g sa pa so sz pl] := WD.clsM (pre := [bO o 6 (cF (lad 0) t t3 t2 ch kp tp wt), bR g 2 (ch 8) 4 (fun k => some (sa k))]) (post := []) hw (sh_opn (j := k) (by omega))
              have hng : ¬ (so k < 0 ∨ so k < 0) := fun z => by rcases z with z | z; exact c33 ((so_neg hsh (by omega)).mpr z); exact c42 ((so_neg hsh (by omega)).mpr z)
              exact s_iret cf hr hlk () (by have q : D_copyP so sz pl f_ p_ t_ q_ m_ = pl := if_neg (fun z => c58 rfl); rw [q]; exact hw) (by unfold R_copy; rw [if_pos ⟨hS, hT⟩, hclj, hclk, if_neg hng, if_neg c58]) (Nat.le_of_ble_eq_true rfl) (Nat.le_of_ble_eq_true rfl) dX6_copy_63 hQ
          · refine lv_ldc hx hb hown (hts _ q600) dX6_copy_45 ?_
            have hw : WD g A s H locs [bO o 6 (cF (lad 0) t t3 t2 ch kp tp wt), bR g 2 (ch 8) 4 (fun k => some (sa k)), bO (sa k) 2 ([.ref (pa k), .int (so k), .int (sz k)]), bI g (pa k) 24 (pl k), cEx (shC g sa pa so sz pl) k 4] := by rw [hm2]; exact hw
            have hw : WD g A s H locs [bO o 6 (cF (lad 0) t t3 t2 ch kp tp wt), bR g 2 (ch 8) 4 (fun k => some (sa k)), shB g sa pa so sz pl] := WD.clsM (pre := [bO o 6 (cF (lad 0) t t3 t2 ch kp tp wt), bR g 2 (ch 8) 4 (fun k => some (sa k))]) (post := []) hw (sh_opn (j := k) (by omega))
            have hng : so k < 0 ∨ so k < 0 := Or.inr ((so_neg hsh (by omega)).mp c42)
            exact s_iret cf hr hlk () (by have q : D_copyP so sz pl f_ p_ t_ q_ m_ = pl := if_neg (fun z => z.2.1 (by rw [hclj, hclk]; exact hng)); rw [q]; exact hw) (by unfold R_copy; rw [if_pos ⟨hS, hT⟩, hclj, hclk, if_pos hng]) (Nat.le_of_ble_eq_true rfl) (Nat.le_of_ble_eq_true rfl) dX6_copy_47 hQ
      · have hw : WD g A s H locs [bO o 6 (cF (lad 0) t t3 t2 ch kp tp wt), bR g 2 (ch 8) 4 (fun k => some (sa k)), bO (sa j) 2 ([.ref (pa j), .int (so j), .int (sz j)]), bI g (pa j) 24 (pl j), bO (sa k) 2 ([.ref (pa k), .int (so k), .int (sz k)]), bI g (pa k) 24 (pl k), cE2 (shC g sa pa so sz pl) j k 4] := WD.opn4 (pre := [bO o 6 (cF (lad 0) t t3 t2 ch kp tp wt), bR g 2 (ch 8) 4 (fun k => some (sa k))]) hw (sh_op2 (j := j) (k := k) (by omega) (by omega) hjk)
        have hw : WD g A s H locs [bO o 6 (cF (lad 0) t t3 t2 ch kp tp wt), bR g 2 (ch 8) 4 (fun k => some (sa k)), bO (sa j) 2 ([.ref (pa j), .int (so j), .int (nI m1)]), bI g (pa j) 24 (pl j), bO (sa k) 2 ([.ref (pa k), .int (so k), .int (nI m2)]), bI g (pa k) 24 (pl k), cE2 (shC g sa pa so sz pl) j k 4] := by rw [← hm1, ← hm2]; exact hw
        refine lv_aload hx hb dX6_copy_27 (lv_at hl 1 rfl) ?_
        refine s_getN (v := .int (so j)) fb2 cf hw 2 rfl 1 rfl q261 rfl dX6_copy_29 ?_
        refine lv_iconst (v := (-1)) hx hb dX6_copy_32 (by decide) ?_
        refine lv_icmp_eq (tgt := 45) hx hb dX6_copy_33 (by decide) (fun c33 => ?_) (fun c33 => ?_)
        · refine lv_ldc hx hb hown (hts _ q600) dX6_copy_45 ?_
          have hw : WD g A s H locs [bO o 6 (cF (lad 0) t t3 t2 ch kp tp wt), bR g 2 (ch 8) 4 (fun k => some (sa k)), bO (sa j) 2 ([.ref (pa j), .int (so j), .int (sz j)]), bI g (pa j) 24 (pl j), bO (sa k) 2 ([.ref (pa k), .int (so k), .int (sz k)]), bI g (pa k) 24 (pl k), cE2 (shC g sa pa so sz pl) j k 4] := by rw [hm1, hm2]; exact hw
          have hw : WD g A s H locs [bO o 6 (cF (lad 0) t t3 t2 ch kp tp wt), bR g 2 (ch 8) 4 (fun k => some (sa k)), shB g sa pa so sz pl] := WD.cls4 (pre := [bO o 6 (cF (lad 0) t t3 t2 ch kp tp wt), bR g 2 (ch 8) 4 (fun k => some (sa k))]) hw (sh_op2 (j := j) (k := k) (by omega) (by omega) hjk)
          have hng : so j < 0 ∨ so k < 0 := Or.inl ((so_neg hsh (by omega)).mp c33)
          exact s_iret cf hr hlk () (by have q : D_copyP so sz pl f_ p_ t_ q_ m_ = pl := if_neg (fun z => z.2.1 (by rw [hclj, hclk]; exact hng)); rw [q]; exact hw) (by unfold R_copy; rw [if_pos ⟨hS, hT⟩, hclj, hclk, if_pos hng]) (Nat.le_of_ble_eq_true rfl) (Nat.le_of_ble_eq_true rfl) dX6_copy_47 hQ
        · refine lv_aload hx hb dX6_copy_36 (lv_at hl 0 rfl) ?_
          refine s_getN (v := .int (so k)) fb2 cf hw 4 rfl 1 rfl q261 rfl dX6_copy_38 ?_
          refine lv_iconst (v := (-1)) hx hb dX6_copy_41 (by decide) ?_
          refine lv_icmp_ne (tgt := 48) hx hb dX6_copy_42 (by decide) (fun c42 => ?_) (fun c42 => ?_)
          · refine lv_aload hx hb dX6_copy_48 (lv_at hl 1 rfl) ?_
            refine s_getN (v := .int (so j)) fb2 cf hw 2 rfl 1 rfl q261 rfl dX6_copy_50 ?_
            refine lv_aload hx hb dX6_copy_53 (lv_at hl 0 rfl) ?_
            refine s_getN (v := .int (so k)) fb2 cf hw 4 rfl 1 rfl q261 rfl dX6_copy_55 ?_
            refine lv_icmp_eq (tgt := 64) hx hb dX6_copy_58 (by decide) (fun c58 => ?_) (fun c58 => ?_)
            · refine lv_aload hx hb dX6_copy_64 (lv_at hl 1 rfl) ?_
              refine lv_iload_n hx hb dX6_copy_66 rfl (lv_at hl 4 rfl) ?_
              refine lv_iload hx hb dX6_copy_67 (lv_at hl 7 rfl) ?_
              refine s_calli (runVN cf (x_hasMany (sx := sa j) (px := pa j) (so_ := so j) (m_ := m1) hm124 p_ m_) hw [2] (by decide) rfl km_X2_hasMany ki_X2_hasMany q859 (run_recv (ci := 2) (T := TX2) (N := 3) hw 2 rfl rfl) rfl rfl hl.1 rfl dX6_copy_69) hw [2] (by decide) rfl (fun _ => rfl) (fun r_15 u_13 H locs hp_14 hw => ?_)
              have hw : WD g A s H locs [bO o 6 (cF (lad 0) t t3 t2 ch kp tp wt), bR g 2 (ch 8) 4 (fun k => some (sa k)), bO (sa j) 2 ([.ref (pa j), .int (so j), .int (nI m1)]), bI g (pa j) 24 (pl j), bO (sa k) 2 ([.ref (pa k), .int (so k), .int (nI m2)]), bI g (pa k) 24 (pl k), cE2 (shC g sa pa so sz pl) j k 4] := hw
              subst hp_14
              refine lv_if_eq (tgt := 87) hx hb dX6_copy_72 (by decide) (fun c72 => ?_) (fun c72 => ?_)
              · have c72 := b01_z c72
                refine lv_ldc hx hb hown (hts _ q844) dX6_copy_87 ?_
                have hw : WD g A s H locs [bO o 6 (cF (lad 0) t t3 t2 ch kp tp wt), bR g 2 (ch 8) 4 (fun k => some (sa k)), bO (sa j) 2 ([.ref (pa j), .int (so j), .int (sz j)]), bI g (pa j) 24 (pl j), bO (sa k) 2 ([.ref (pa k), .int (so k), .int (sz k)]), bI g (pa k) 24 (pl k), cE2 (shC g sa pa so sz pl) j k 4] := by rw [hm1, hm2]; exact hw
                have hw : WD g A s H locs [bO o 6 (cF (lad 0) t t3 t2 ch kp tp wt), bR g 2 (ch 8) 4 (fun k => some (sa k)), shB g sa pa so sz pl] := WD.cls4 (pre := [bO o 6 (cF (lad 0) t t3 t2 ch kp tp wt), bR g 2 (ch 8) 4 (fun k => some (sa k))]) hw (sh_op2 (j := j) (k := k) (by omega) (by omega) hjk)
                have hng : ¬ (so j < 0 ∨ so k < 0) := fun z => by rcases z with z | z; exact c33 ((so_neg hsh (by omega)).mpr z); exact c42 ((so_neg hsh (by omega)).mpr z)
                have hix : ¬ (okIx p_ m_ (sz j) ∧ okIx q_ m_ (sz k)) := fun z => c72 (by rw [← hm1]; exact z.1)
                exact s_iret cf hr hlk () (by have q : D_copyP so sz pl f_ p_ t_ q_ m_ = pl := if_neg (fun z => hix (by have h3 := z.2.2.2; rw [hclj, hclk] at h3; exact h3)); rw [q]; exact hw) (by unfold R_copy; rw [if_pos ⟨hS, hT⟩, hclj, hclk, if_neg hng, if_pos c58, if_neg hix]) (Nat.le_of_ble_eq_true rfl) (Nat.le_of_ble_eq_true rfl) dX6_copy_89 hQ
              · have c72 := b01_n c72
                refine lv_aload hx hb dX6_copy_75 (lv_at hl 0 rfl) ?_
                refine lv_iload hx hb dX6_copy_77 (lv_at hl 6 rfl) ?_
                refine lv_iload hx hb dX6_copy_79 (lv_at hl 7 rfl) ?_
                refine s_calli (runVN cf (x_hasMany (sx := sa k) (px := pa k) (so_ := so k) (m_ := m2) hm224 q_ m_) hw [4] (by decide) rfl km_X2_hasMany ki_X2_hasMany q859 (run_recv (ci := 2) (T := TX2) (N := 3) hw 4 rfl rfl) rfl rfl hl.1 rfl dX6_copy_81) hw [4] (by decide) rfl (fun _ => rfl) (fun r_18 u_16 H locs hp_17 hw => ?_)
                have hw : WD g A s H locs [bO o 6 (cF (lad 0) t t3 t2 ch kp tp wt), bR g 2 (ch 8) 4 (fun k => some (sa k)), bO (sa j) 2 ([.ref (pa j), .int (so j), .int (nI m1)]), bI g (pa j) 24 (pl j), bO (sa k) 2 ([.ref (pa k), .int (so k), .int (nI m2)]), bI g (pa k) 24 (pl k), cE2 (shC g sa pa so sz pl) j k 4] := hw
                subst hp_17
                refine lv_if_ne (tgt := 90) hx hb dX6_copy_84 (by decide) (fun c84 => ?_) (fun c84 => ?_)
                · have c84 := b01_n c84
                  obtain ⟨pn, mn, hpm, hpx, hmx⟩ := okIx_nat (s := nI m1) rfl (by omega) c72
                  obtain ⟨qn, mn2, hqm, hqx, hmx2⟩ := okIx_nat (s := nI m2) rfl (by omega) c84
                  have hmm : mn2 = mn := (nI_eq (by omega) (by omega)).mp (hmx2.symm.trans hmx)
                  have hclp : p_.toNatClampNeg = pn := by rw [hpx]; exact nI_clamp (by omega)
                  have hclq : q_.toNatClampNeg = qn := by rw [hqx]; exact nI_clamp (by omega)
                  have hclm : m_.toNatClampNeg = mn := by rw [hmx]; exact nI_clamp (by omega)
                  refine lv_aload hx hb dX6_copy_90 (lv_at hl 1 rfl) ?_
                  refine s_getN (v := .ref (pa j)) fb2 cf hw 2 rfl 0 rfl q259 rfl dX6_copy_92 ?_
                  refine lv_iload_n hx hb dX6_copy_95 rfl (lv_at hl 4 rfl) ?_
                  refine lv_aload hx hb dX6_copy_96 (lv_at hl 0 rfl) ?_
                  refine s_getN (v := .ref (pa k)) fb2 cf hw 4 rfl 0 rfl q259 rfl dX6_copy_98 ?_
                  refine lv_iload hx hb dX6_copy_101 (lv_at hl 6 rfl) ?_
                  refine lv_iload hx hb dX6_copy_103 (lv_at hl 7 rfl) ?_
                  refine s_copyi pn qn mn cf (by rw [hml]; exact hl.1.symm) hw q863 3 5 rfl rfl rfl rfl (hpx) (hqx) (hmx) (by omega) (by omega) rfl rfl dX6_copy_105 (fun H locs hw => ?_)
                  have hw : WD g A s H locs [bO o 6 (cF (lad 0) t t3 t2 ch kp tp wt), bR g 2 (ch 8) 4 (fun k => some (sa k)), bO (sa j) 2 ([.ref (pa j), .int (so j), .int (nI m1)]), bI g (pa j) 24 (pl j), bO (sa k) 2 ([.ref (pa k), .int (so k), .int (nI m2)]), bI g (pa k) 24 (va_cpy (pl j) (pl k) pn qn mn), cE2 (shC g sa pa so sz pl) j k 4] := hw
                  refine lv_iload hx hb dX6_copy_108 (lv_at hl 7 rfl) ?_
                  have hng : ¬ (so j < 0 ∨ so k < 0) := fun z => by rcases z with z | z; exact c33 ((so_neg hsh (by omega)).mpr z); exact c42 ((so_neg hsh (by omega)).mpr z)
                  have hix : okIx p_ m_ (sz j) ∧ okIx q_ m_ (sz k) := ⟨by rw [hm1]; exact c72, by rw [hm2]; exact c84⟩
                  have hok : okCopy so sz f_ p_ t_ q_ m_ := ⟨⟨hS, hT⟩, by rw [hclj, hclk]; exact hng, by rw [hclj, hclk]; exact c58, by rw [hclj, hclk]; exact hix⟩
                  have hw : WD g A s H locs [bO o 6 (cF (lad 0) t t3 t2 ch kp tp wt), bR g 2 (ch 8) 4 (fun k => some (sa k)), bO (sa j) 2 ([.ref (pa j), .int (so j), .int (sz j)]), bI g (pa j) 24 (pl j), bO (sa k) 2 ([.ref (pa k), .int (so k), .int (sz k)]), bI g (pa k) 24 (va_cpy (pl j) (pl k) pn qn mn), cE2 (shC g sa pa so sz pl) j k 4] := by rw [hm1, hm2]; exact hw
                  have hw : WD g A s H locs [bO o 6 (cF (lad 0) t t3 t2 ch kp tp wt), bR g 2 (ch 8) 4 (fun k => some (sa k)), shB g sa pa so sz (updP pl k (va_cpy (pl j) (pl k) pn qn mn))] := WD.cls4 (pre := [bO o 6 (cF (lad 0) t t3 t2 ch kp tp wt), bR g 2 (ch 8) 4 (fun k => some (sa k))]) hw (sh_cl2 (j := j) (k := k) (by omega) (by omega) hjk)
                  exact s_iret cf hr hlk () (by have q : D_copyP so sz pl f_ p_ t_ q_ m_ = updP pl k (va_cpy (pl j) (pl k) pn qn mn) := (if_pos hok).trans (by rw [hclj, hclk, hclp, hclq, hclm]); rw [q]; exact hw) (by unfold R_copy; rw [if_pos ⟨hS, hT⟩, hclj, hclk, if_neg hng, if_pos c58, if_pos hix]) (Nat.le_of_ble_eq_true rfl) (Nat.le_of_ble_eq_true rfl) dX6_copy_110 hQ
                · have c84 := b01_z c84
                  refine lv_ldc hx hb hown (hts _ q844) dX6_copy_87 ?_
                  have hw : WD g A s H locs [bO o 6 (cF (lad 0) t t3 t2 ch kp tp wt), bR g 2 (ch 8) 4 (fun k => some (sa k)), bO (sa j) 2 ([.ref (pa j), .int (so j), .int (sz j)]), bI g (pa j) 24 (pl j), bO (sa k) 2 ([.ref (pa k), .int (so k), .int (sz k)]), bI g (pa k) 24 (pl k), cE2 (shC g sa pa so sz pl) j k 4] := by rw [hm1, hm2]; exact hw
                  have hw : WD g A s H locs [bO o 6 (cF (lad 0) t t3 t2 ch kp tp wt), bR g 2 (ch 8) 4 (fun k => some (sa k)), shB g sa pa so sz pl] := WD.cls4 (pre := [bO o 6 (cF (lad 0) t t3 t2 ch kp tp wt), bR g 2 (ch 8) 4 (fun k => some (sa k))]) hw (sh_op2 (j := j) (k := k) (by omega) (by omega) hjk)
                  have hng : ¬ (so j < 0 ∨ so k < 0) := fun z => by rcases z with z | z; exact c33 ((so_neg hsh (by omega)).mpr z); exact c42 ((so_neg hsh (by omega)).mpr z)
                  have hix : ¬ (okIx p_ m_ (sz j) ∧ okIx q_ m_ (sz k)) := fun z => c84 (by rw [← hm2]; exact z.2)
                  exact s_iret cf hr hlk () (by have q : D_copyP so sz pl f_ p_ t_ q_ m_ = pl := if_neg (fun z => hix (by have h3 := z.2.2.2; rw [hclj, hclk] at h3; exact h3)); rw [q]; exact hw) (by unfold R_copy; rw [if_pos ⟨hS, hT⟩, hclj, hclk, if_neg hng, if_pos c58, if_neg hix]) (Nat.le_of_ble_eq_true rfl) (Nat.le_of_ble_eq_true rfl) dX6_copy_89 hQ
            · refine lv_ldc hx hb hown (hts _ q441) dX6_copy_61 ?_
              have hw : WD g A s H locs [bO o 6 (cF (lad 0) t t3 t2 ch kp tp wt), bR g 2 (ch 8) 4 (fun k => some (sa k)), bO (sa j) 2 ([.ref (pa j), .int (so j), .int (sz j)]), bI g (pa j) 24 (pl j), bO (sa k) 2 ([.ref (pa k), .int (so k), .int (sz k)]), bI g (pa k) 24 (pl k), cE2 (shC g sa pa so sz pl) j k 4] := by rw [hm1, hm2]; exact hw
              have hw : WD g A s H locs [bO o 6 (cF (lad 0) t t3 t2 ch kp tp wt), bR g 2 (ch 8) 4 (fun k => some (sa k)), shB g sa pa so sz pl] := WD.cls4 (pre := [bO o 6 (cF (lad 0) t t3 t2 ch kp tp wt), bR g 2 (ch 8) 4 (fun k => some (sa k))]) hw (sh_op2 (j := j) (k := k) (by omega) (by omega) hjk)
              have hng : ¬ (so j < 0 ∨ so k < 0) := fun z => by rcases z with z | z; exact c33 ((so_neg hsh (by omega)).mpr z); exact c42 ((so_neg hsh (by omega)).mpr z)
              exact s_iret cf hr hlk () (by have q : D_copyP so sz pl f_ p_ t_ q_ m_ = pl := if_neg (fun z => c58 (by have h3 := z.2.2.1; rw [hclj, hclk] at h3; exact h3)); rw [q]; exact hw) (by unfold R_copy; rw [if_pos ⟨hS, hT⟩, hclj, hclk, if_neg hng, if_neg c58]) (Nat.le_of_ble_eq_true rfl) (Nat.le_of_ble_eq_true rfl) dX6_copy_63 hQ
          · refine lv_ldc hx hb hown (hts _ q600) dX6_copy_45 ?_
            have hw : WD g A s H locs [bO o 6 (cF (lad 0) t t3 t2 ch kp tp wt), bR g 2 (ch 8) 4 (fun k => some (sa k)), bO (sa j) 2 ([.ref (pa j), .int (so j), .int (sz j)]), bI g (pa j) 24 (pl j), bO (sa k) 2 ([.ref (pa k), .int (so k), .int (sz k)]), bI g (pa k) 24 (pl k), cE2 (shC g sa pa so sz pl) j k 4] := by rw [hm1, hm2]; exact hw
            have hw : WD g A s H locs [bO o 6 (cF (lad 0) t t3 t2 ch kp tp wt), bR g 2 (ch 8) 4 (fun k => some (sa k)), shB g sa pa so sz pl] := WD.cls4 (pre := [bO o 6 (cF (lad 0) t t3 t2 ch kp tp wt), bR g 2 (ch 8) 4 (fun k => some (sa k))]) hw (sh_op2 (j := j) (k := k) (by omega) (by omega) hjk)
            have hng : so j < 0 ∨ so k < 0 := Or.inr ((so_neg hsh (by omega)).mp c42)
            exact s_iret cf hr hlk () (by have q : D_copyP so sz pl f_ p_ t_ q_ m_ = pl := if_neg (fun z => z.2.1 (by rw [hclj, hclk]; exact hng)); rw [q]; exact hw) (by unfold R_copy; rw [if_pos ⟨hS, hT⟩, hclj, hclk, if_pos hng]) (Nat.le_of_ble_eq_true rfl) (Nat.le_of_ble_eq_true rfl) dX6_copy_47 hQ
    · refine lv_topv (y := .null) (by rw [if_neg hT]; rfl) ?_
      refine lv_astoreN (lv' := [(7, .null), (6, .ref (sa j)), (0, .ref o), (1, .int f_), (2, .int p_), (3, .int t_), (4, .int q_), (5, .int m_)]) hx hb dX6_copy_12 hl (by decide) rfl (fun ls hl => ?_)
      refine lv_aload hx hb dX6_copy_14 (lv_at hl 1 rfl) ?_
      refine lv_ifnull hx hb dX6_copy_16 ?_
      refine lv_aloadN hx hb dX6_copy_19 (lv_at hl 0 rfl) ?_
      refine lv_ifnonnullN hx hb dX6_copy_21 ?_
      refine lv_ldc hx hb hown (hts _ q356) dX6_copy_24 ?_
      exact s_iret cf hr hlk () (by have q : D_copyP so sz pl f_ p_ t_ q_ m_ = pl := if_neg (fun z => hT z.1.2); rw [q]; exact hw) (by unfold R_copy; rw [if_neg (fun z => hT z.2)]) (Nat.le_of_ble_eq_true rfl) (Nat.le_of_ble_eq_true rfl) dX6_copy_26 hQ
  · refine lv_topv (y := .null) (by rw [if_neg hS]; rfl) ?_
    refine lv_astoreN (lv' := [(6, .null), (0, .ref o), (1, .int f_), (2, .int p_), (3, .int t_), (4, .int q_), (5, .int m_)]) hx hb dX6_copy_5 hl (by decide) rfl (fun ls hl => ?_)
    refine lv_aload_n hx hb dX6_copy_7 rfl (lv_at hl 1 rfl) ?_
    refine lv_iload_n hx hb dX6_copy_8 rfl (lv_at hl 4 rfl) ?_
    refine s_callq (runV cf (x_sheetAt (t := t) (lad := lad) (o := o) (t2 := t2) (t3 := t3) (ch := ch) (kp := kp) (tp := tp) (wt := wt) (sa := sa) t_) hw [0, 1] (by decide) rfl km_X6_sheetAt ki_X6_sheetAt q596 (run_recv (ci := 6) (T := TX6) (N := 13) hw 0 rfl rfl) rfl rfl hl.1 rfl dX6_copy_9) hw [0, 1] (by decide) rfl (fun _ => rfl) (fun r_21 u_19 H locs hp_20 hw => ?_)
    have hw : WD g A s H locs [bO o 6 (cF (lad 0) t t3 t2 ch kp tp wt), bR g 2 (ch 8) 4 (fun k => some (sa k)), shB g sa pa so sz pl] := hw
    subst hp_20
    by_cases hT : 0 ≤ t_ ∧ t_ ≤ 3
    · obtain ⟨k, hk3, hkx⟩ := rng_nat (m := 3) (by omega) hT.1 hT.2
      have hclk : (t_).toNatClampNeg = k := by rw [hkx]; exact nI_clamp (by omega)
      refine lv_topv (y := .ref (sa k)) (by rw [if_pos hT, hclk]; rfl) ?_
      refine lv_astore (lv' := [(7, .ref (sa k)), (6, .null), (0, .ref o), (1, .int f_), (2, .int p_), (3, .int t_), (4, .int q_), (5, .int m_)]) hx hb dX6_copy_12 hl (by decide) rfl (fun ls hl => ?_)
      refine lv_aloadN hx hb dX6_copy_14 (lv_at hl 1 rfl) ?_
      refine lv_ifnullN (tgt := 24) hx hb dX6_copy_16 (by decide) ?_
      refine lv_ldc hx hb hown (hts _ q356) dX6_copy_24 ?_
      exact s_iret cf hr hlk () (by have q : D_copyP so sz pl f_ p_ t_ q_ m_ = pl := if_neg (fun z => hS z.1.1); rw [q]; exact hw) (by unfold R_copy; rw [if_neg (fun z => hS z.1)]) (Nat.le_of_ble_eq_true rfl) (Nat.le_of_ble_eq_true rfl) dX6_copy_26 hQ
    · refine lv_topv (y := .null) (by rw [if_neg hT]; rfl) ?_
      refine lv_astoreN (lv' := [(7, .null), (6, .null), (0, .ref o), (1, .int f_), (2, .int p_), (3, .int t_), (4, .int q_), (5, .int m_)]) hx hb dX6_copy_12 hl (by decide) rfl (fun ls hl => ?_)
      refine lv_aloadN hx hb dX6_copy_14 (lv_at hl 1 rfl) ?_
      refine lv_ifnullN (tgt := 24) hx hb dX6_copy_16 (by decide) ?_
      refine lv_ldc hx hb hown (hts _ q356) dX6_copy_24 ?_
      exact s_iret cf hr hlk () (by have q : D_copyP so sz pl f_ p_ t_ q_ m_ = pl := if_neg (fun z => hS z.1.1); rw [q]; exact hw) (by unfold R_copy; rw [if_neg (fun z => hS z.1)]) (Nat.le_of_ble_eq_true rfl) (Nat.le_of_ble_eq_true rfl) dX6_copy_26 hQ
set_option maxRecDepth 100000 in
set_option maxHeartbeats 4000000 in
theorem c_ask {l : Launch} {g : GG} {t : Nat} {lad : Nat → Nat} {o t2 t3 : Nat} {ch : Nat → Nat} {kp tp wt : Int32} {la ra qa : Nat → Nat} {hs kd st_l co he nn rs rl : DD} {rp : Nat → DD} {si sk ss sn sb : DD} (hso : SlOK kd st_l co he nn rl rp hs si sk ss sn sb) (x y : Int32) : Ct l g yX6_ask cX6_ask 4 (Option.some Jvm.ClassFile.FieldType.int) 2 0 0 [.ref o, .int x, .int y] [bO o 6 (cF (lad 0) t t3 t2 ch kp tp wt), bR g 3 (ch 9) 5 (fun k => some (la k)), slB g la ra qa hs kd st_l co he nn rs rl rp] (QI g (fun r (_ : Unit) => r = R_ask hs si sk x y) (fun _ => [bO o 6 (cF (lad 0) t t3 t2 ch kp tp wt), bR g 3 (ch 9) 5 (fun k => some (la k)), slB g la ra qa hs kd st_l co he nn rs rl rp])) := by
  refine Ct.of (by decide) rfl ?_
  intro p e s m args below meth c A H locs ls Qf cf hr hlk hnm hQ hw hl
  have hx := cf.1
  have hb := cf.2.1
  have hml := cf.2.2.1
  have hown := cf.2.2.2.1
  have hts := cf.2.2.2.2
  have hw : WD g A s H locs [bO o 6 (cF (lad 0) t t3 t2 ch kp tp wt), bR g 3 (ch 9) 5 (fun k => some (la k)), slB g la ra qa hs kd st_l co he nn rs rl rp] := hw
  have hl : lv_has ls 4 [(0, .ref o), (1, .int x), (2, .int y)] := hl
  refine lv_aload_n hx hb dX6_ask_0 rfl (lv_at hl 0 rfl) ?_
  refine lv_iload_n hx hb dX6_ask_1 rfl (lv_at hl 1 rfl) ?_
  refine s_callq (runV cf (x_slotAt (t := t) (lad := lad) (o := o) (t2 := t2) (t3 := t3) (ch := ch) (kp := kp) (tp := tp) (wt := wt) (la := la) x) hw [0, 1] (by decide) rfl km_X6_slotAt ki_X6_slotAt q868 (run_recv (ci := 6) (T := TX6) (N := 13) hw 0 rfl rfl) rfl rfl hl.1 rfl dX6_ask_2) hw [0, 1] (by decide) rfl (fun _ => rfl) (fun r_3 u_1 H locs hp_2 hw => ?_)
  have hw : WD g A s H locs [bO o 6 (cF (lad 0) t t3 t2 ch kp tp wt), bR g 3 (ch 9) 5 (fun k => some (la k)), slB g la ra qa hs kd st_l co he nn rs rl rp] := hw
  subst hp_2
  by_cases hS : 0 ≤ x ∧ x ≤ 4
  · obtain ⟨sl, hsl3, hslx⟩ := rng_nat (m := 4) (by omega) hS.1 hS.2
    have hclsl : (x).toNatClampNeg = sl := by rw [hslx]; exact nI_clamp (by omega)
    refine lv_topv (y := .ref (la sl)) (by rw [if_pos hS, hclsl]; rfl) ?_
    have hw : WD g A s H locs [bO o 6 (cF (lad 0) t t3 t2 ch kp tp wt), bR g 3 (ch 9) 5 (fun k => some (la k)), bO (la sl) 3 ([.int (hs sl), .int (kd sl), .int (st_l sl), .int (co sl), .int (he sl), .int (nn sl), .ref (ra sl)]), bO (ra sl) 2 ([.ref (qa sl), .int (rs sl), .int (rl sl)]), bI g (qa sl) 24 (rp sl), cEx (slC g la ra qa hs kd st_l co he nn rs rl rp) sl 5] := WD.opn3 (pre := [bO o 6 (cF (lad 0) t t3 t2 ch kp tp wt), bR g 3 (ch 9) 5 (fun k => some (la k))]) hw (sl_opn (j := sl) (by omega))
    refine lv_astore_n (lv' := [(3, .ref (la sl)), (0, .ref o), (1, .int x), (2, .int y)]) hx hb dX6_ask_5 rfl hl (by decide) rfl (fun ls hl => ?_)
    refine lv_aload_n hx hb dX6_ask_6 rfl (lv_at hl 0 rfl) ?_
    refine lv_ifnull hx hb dX6_ask_7 ?_
    refine lv_iload_n hx hb dX6_ask_10 rfl (lv_at hl 3 rfl) ?_
    refine s_calli (runS cf (x_isKind y) hw [] (by decide) rfl km_X6_isKind ks_X6_isKind q350 rfl rfl hl.1 rfl dX6_ask_11) hw [] (by decide) rfl (fun _ => rfl) (fun r_6 u_4 H locs hp_5 hw => ?_)
    have hw : WD g A s H locs [bO o 6 (cF (lad 0) t t3 t2 ch kp tp wt), bR g 3 (ch 9) 5 (fun k => some (la k)), bO (la sl) 3 ([.int (hs sl), .int (kd sl), .int (st_l sl), .int (co sl), .int (he sl), .int (nn sl), .ref (ra sl)]), bO (ra sl) 2 ([.ref (qa sl), .int (rs sl), .int (rl sl)]), bI g (qa sl) 24 (rp sl), cEx (slC g la ra qa hs kd st_l co he nn rs rl rp) sl 5] := hw
    subst hp_5
    refine lv_if_ne (tgt := 20) hx hb dX6_ask_14 (by decide) (fun c14 => ?_) (fun c14 => ?_)
    · have c14 := b01_n c14
      refine lv_aload_n hx hb dX6_ask_20 rfl (lv_at hl 0 rfl) ?_
      refine s_getN (v := .int (hs sl)) fb3 cf hw 2 rfl 0 rfl q279 rfl dX6_ask_21 ?_
      refine lv_if_ne (tgt := 30) hx hb dX6_ask_24 (by decide) (fun c24 => ?_) (fun c24 => ?_)
      · refine lv_aload_n hx hb dX6_ask_30 rfl (lv_at hl 0 rfl) ?_
        refine s_getN (v := .int (hs sl)) fb3 cf hw 2 rfl 0 rfl q279 rfl dX6_ask_31 ?_
        refine lv_iconst (v := 1) hx hb dX6_ask_34 (by decide) ?_
        refine lv_icmp_ne (tgt := 49) hx hb dX6_ask_35 (by decide) (fun c35 => ?_) (fun c35 => ?_)
        · refine lv_ldc hx hb hown (hts _ q441) dX6_ask_49 ?_
          have hw : WD g A s H locs [bO o 6 (cF (lad 0) t t3 t2 ch kp tp wt), bR g 3 (ch 9) 5 (fun k => some (la k)), slB g la ra qa hs kd st_l co he nn rs rl rp] := WD.cls3 (pre := [bO o 6 (cF (lad 0) t t3 t2 ch kp tp wt), bR g 3 (ch 9) 5 (fun k => some (la k))]) hw (sl_opn (j := sl) (by omega))
          exact s_iret cf hr hlk () hw (by unfold R_ask; rw [if_pos ⟨hS, c14⟩, hclsl, if_neg c24, if_neg (fun z => c35 z.1)]) (Nat.le_of_ble_eq_true rfl) (Nat.le_of_ble_eq_true rfl) dX6_ask_51 hQ
        · refine lv_aload_n hx hb dX6_ask_38 rfl (lv_at hl 0 rfl) ?_
          refine s_getN (v := .int (kd sl)) fb3 cf hw 2 rfl 1 rfl q281 rfl dX6_ask_39 ?_
          refine lv_iload_n hx hb dX6_ask_42 rfl (lv_at hl 3 rfl) ?_
          refine s_calli (runS cf (x_isOf (kd sl) y ((hso sl (by omega)).1 c35).1) hw [] (by decide) rfl km_X6_isOf ks_X6_isOf q436 rfl rfl hl.1 rfl dX6_ask_43) hw [] (by decide) rfl (fun _ => rfl) (fun r_9 u_7 H locs hp_8 hw => ?_)
          have hw : WD g A s H locs [bO o 6 (cF (lad 0) t t3 t2 ch kp tp wt), bR g 3 (ch 9) 5 (fun k => some (la k)), bO (la sl) 3 ([.int (hs sl), .int (kd sl), .int (st_l sl), .int (co sl), .int (he sl), .int (nn sl), .ref (ra sl)]), bO (ra sl) 2 ([.ref (qa sl), .int (rs sl), .int (rl sl)]), bI g (qa sl) 24 (rp sl), cEx (slC g la ra qa hs kd st_l co he nn rs rl rp) sl 5] := hw
          subst hp_8
          refine lv_if_ne (tgt := 52) hx hb dX6_ask_46 (by decide) (fun c46 => ?_) (fun c46 => ?_)
          · have c46 := b01_n c46
            refine lv_aload_n hx hb dX6_ask_52 rfl (lv_at hl 0 rfl) ?_
            refine s_getN (v := .int (kd sl)) fb3 cf hw 2 rfl 1 rfl q281 rfl dX6_ask_53 ?_
            refine lv_aload_n hx hb dX6_ask_56 rfl (lv_at hl 0 rfl) ?_
            refine s_getN (v := .int (st_l sl)) fb3 cf hw 2 rfl 2 rfl q283 rfl dX6_ask_57 ?_
            refine lv_aload_n hx hb dX6_ask_60 rfl (lv_at hl 0 rfl) ?_
            refine s_getN (v := .int (co sl)) fb3 cf hw 2 rfl 3 rfl q285 rfl dX6_ask_61 ?_
            refine lv_aload_n hx hb dX6_ask_64 rfl (lv_at hl 0 rfl) ?_
            refine s_getN (v := .int (he sl)) fb3 cf hw 2 rfl 4 rfl q287 rfl dX6_ask_65 ?_
            refine s_calli (runS cf (x_worth (kd sl) (st_l sl) (co sl) (he sl)) hw [] (by decide) rfl km_X6_worth ks_X6_worth q429 rfl rfl hl.1 rfl dX6_ask_68) hw [] (by decide) rfl (fun _ => rfl) (fun r_12 u_10 H locs hp_11 hw => ?_)
            have hw : WD g A s H locs [bO o 6 (cF (lad 0) t t3 t2 ch kp tp wt), bR g 3 (ch 9) 5 (fun k => some (la k)), bO (la sl) 3 ([.int (hs sl), .int (kd sl), .int (st_l sl), .int (co sl), .int (he sl), .int (nn sl), .ref (ra sl)]), bO (ra sl) 2 ([.ref (qa sl), .int (rs sl), .int (rl sl)]), bI g (qa sl) 24 (rp sl), cEx (slC g la ra qa hs kd st_l co he nn rs rl rp) sl 5] := hw
            subst hp_11
            have hw : WD g A s H locs [bO o 6 (cF (lad 0) t t3 t2 ch kp tp wt), bR g 3 (ch 9) 5 (fun k => some (la k)), slB g la ra qa hs kd st_l co he nn rs rl rp] := WD.cls3 (pre := [bO o 6 (cF (lad 0) t t3 t2 ch kp tp wt), bR g 3 (ch 9) 5 (fun k => some (la k))]) hw (sl_opn (j := sl) (by omega))
            exact s_iret cf hr hlk () hw (by unfold R_ask; rw [if_pos ⟨hS, c14⟩, hclsl, if_neg c24, if_pos ⟨c35, by rw [← ((hso sl (by omega)).1 c35).2.1]; exact c46⟩]; exact ((hso sl (by omega)).1 c35).2.2) (Nat.le_of_ble_eq_true rfl) (Nat.le_of_ble_eq_true rfl) dX6_ask_71 hQ
          · have c46 := b01_z c46
            refine lv_ldc hx hb hown (hts _ q441) dX6_ask_49 ?_
            have hw : WD g A s H locs [bO o 6 (cF (lad 0) t t3 t2 ch kp tp wt), bR g 3 (ch 9) 5 (fun k => some (la k)), slB g la ra qa hs kd st_l co he nn rs rl rp] := WD.cls3 (pre := [bO o 6 (cF (lad 0) t t3 t2 ch kp tp wt), bR g 3 (ch 9) 5 (fun k => some (la k))]) hw (sl_opn (j := sl) (by omega))
            exact s_iret cf hr hlk () hw (by unfold R_ask; rw [if_pos ⟨hS, c14⟩, hclsl, if_neg c24, if_neg (fun z => c46 (by rw [((hso sl (by omega)).1 c35).2.1]; exact z.2))]) (Nat.le_of_ble_eq_true rfl) (Nat.le_of_ble_eq_true rfl) dX6_ask_51 hQ
      · refine lv_ldc hx hb hown (hts _ q600) dX6_ask_27 ?_
        have hw : WD g A s H locs [bO o 6 (cF (lad 0) t t3 t2 ch kp tp wt), bR g 3 (ch 9) 5 (fun k => some (la k)), slB g la ra qa hs kd st_l co he nn rs rl rp] := WD.cls3 (pre := [bO o 6 (cF (lad 0) t t3 t2 ch kp tp wt), bR g 3 (ch 9) 5 (fun k => some (la k))]) hw (sl_opn (j := sl) (by omega))
        exact s_iret cf hr hlk () hw (by unfold R_ask; rw [if_pos ⟨hS, c14⟩, hclsl, if_pos c24]) (Nat.le_of_ble_eq_true rfl) (Nat.le_of_ble_eq_true rfl) dX6_ask_29 hQ
    · have c14 := b01_z c14
      refine lv_ldc hx hb hown (hts _ q356) dX6_ask_17 ?_
      have hw : WD g A s H locs [bO o 6 (cF (lad 0) t t3 t2 ch kp tp wt), bR g 3 (ch 9) 5 (fun k => some (la k)), slB g la ra qa hs kd st_l co he nn rs rl rp] := WD.cls3 (pre := [bO o 6 (cF (lad 0) t t3 t2 ch kp tp wt), bR g 3 (ch 9) 5 (fun k => some (la k))]) hw (sl_opn (j := sl) (by omega))
      exact s_iret cf hr hlk () hw (by unfold R_ask; rw [if_neg (fun z => c14 z.2)]) (Nat.le_of_ble_eq_true rfl) (Nat.le_of_ble_eq_true rfl) dX6_ask_19 hQ
  · refine lv_topv (y := .null) (by rw [if_neg hS]; rfl) ?_
    refine lv_astore_nN (lv' := [(3, .null), (0, .ref o), (1, .int x), (2, .int y)]) hx hb dX6_ask_5 rfl hl (by decide) rfl (fun ls hl => ?_)
    refine lv_aload_nN hx hb dX6_ask_6 rfl (lv_at hl 0 rfl) ?_
    refine lv_ifnullN (tgt := 17) hx hb dX6_ask_7 (by decide) ?_
    refine lv_ldc hx hb hown (hts _ q356) dX6_ask_17 ?_
    exact s_iret cf hr hlk () hw (by unfold R_ask; rw [if_neg (fun z => hS z.1)]) (Nat.le_of_ble_eq_true rfl) (Nat.le_of_ble_eq_true rfl) dX6_ask_19 hQ
set_option maxRecDepth 100000 in
set_option maxHeartbeats 4000000 in
theorem c_rest {l : Launch} {g : GG} {t : Nat} {lad : Nat → Nat} {o t2 t3 : Nat} {ch : Nat → Nat} {kp tp wt : Int32} {la ra qa : Nat → Nat} {hs kd st_l co he nn rs rl : DD} {rp : Nat → DD} {si sk ss sn sb : DD} (hso : SlOK kd st_l co he nn rl rp hs si sk ss sn sb) (x y : Int32) : Ct l g yX6_rest cX6_rest 4 (Option.some Jvm.ClassFile.FieldType.int) 1 0 0 [.ref o, .int x, .int y] [bO o 6 (cF (lad 0) t t3 t2 ch kp tp wt), bR g 3 (ch 9) 5 (fun k => some (la k)), slB g la ra qa hs kd st_l co he nn rs rl rp] (QI g (fun r (_ : Unit) => r = R_rest hs si x y) (fun _ => [bO o 6 (cF (lad 0) t t3 t2 ch kp tp wt), bR g 3 (ch 9) 5 (fun k => some (la k)), slB g la ra qa hs kd st_l co he nn rs rl rp])) := by
  refine Ct.of (by decide) rfl ?_
  intro p e s m args below meth c A H locs ls Qf cf hr hlk hnm hQ hw hl
  have hx := cf.1
  have hb := cf.2.1
  have hml := cf.2.2.1
  have hown := cf.2.2.2.1
  have hts := cf.2.2.2.2
  have hw : WD g A s H locs [bO o 6 (cF (lad 0) t t3 t2 ch kp tp wt), bR g 3 (ch 9) 5 (fun k => some (la k)), slB g la ra qa hs kd st_l co he nn rs rl rp] := hw
  have hl : lv_has ls 4 [(0, .ref o), (1, .int x), (2, .int y)] := hl
  refine lv_aload_n hx hb dX6_rest_0 rfl (lv_at hl 0 rfl) ?_
  refine lv_iload_n hx hb dX6_rest_1 rfl (lv_at hl 1 rfl) ?_
  refine s_callq (runV cf (x_slotAt (t := t) (lad := lad) (o := o) (t2 := t2) (t3 := t3) (ch := ch) (kp := kp) (tp := tp) (wt := wt) (la := la) x) hw [0, 1] (by decide) rfl km_X6_slotAt ki_X6_slotAt q868 (run_recv (ci := 6) (T := TX6) (N := 13) hw 0 rfl rfl) rfl rfl hl.1 rfl dX6_rest_2) hw [0, 1] (by decide) rfl (fun _ => rfl) (fun r_3 u_1 H locs hp_2 hw => ?_)
  have hw : WD g A s H locs [bO o 6 (cF (lad 0) t t3 t2 ch kp tp wt), bR g 3 (ch 9) 5 (fun k => some (la k)), slB g la ra qa hs kd st_l co he nn rs rl rp] := hw
  subst hp_2
  by_cases hS : 0 ≤ x ∧ x ≤ 4
  · obtain ⟨sl, hsl3, hslx⟩ := rng_nat (m := 4) (by omega) hS.1 hS.2
    have hclsl : (x).toNatClampNeg = sl := by rw [hslx]; exact nI_clamp (by omega)
    refine lv_topv (y := .ref (la sl)) (by rw [if_pos hS, hclsl]; rfl) ?_
    have hw : WD g A s H locs [bO o 6 (cF (lad 0) t t3 t2 ch kp tp wt), bR g 3 (ch 9) 5 (fun k => some (la k)), bO (la sl) 3 ([.int (hs sl), .int (kd sl), .int (st_l sl), .int (co sl), .int (he sl), .int (nn sl), .ref (ra sl)]), bO (ra sl) 2 ([.ref (qa sl), .int (rs sl), .int (rl sl)]), bI g (qa sl) 24 (rp sl), cEx (slC g la ra qa hs kd st_l co he nn rs rl rp) sl 5] := WD.opn3 (pre := [bO o 6 (cF (lad 0) t t3 t2 ch kp tp wt), bR g 3 (ch 9) 5 (fun k => some (la k))]) hw (sl_opn (j := sl) (by omega))
    refine lv_astore_n (lv' := [(3, .ref (la sl)), (0, .ref o), (1, .int x), (2, .int y)]) hx hb dX6_rest_5 rfl hl (by decide) rfl (fun ls hl => ?_)
    refine lv_aload_n hx hb dX6_rest_6 rfl (lv_at hl 0 rfl) ?_
    refine lv_ifnonnull (tgt := 13) hx hb dX6_rest_7 (by decide) ?_
    refine lv_aload_n hx hb dX6_rest_13 rfl (lv_at hl 0 rfl) ?_
    refine s_getN (v := .int (hs sl)) fb3 cf hw 2 rfl 0 rfl q279 rfl dX6_rest_14 ?_
    refine lv_if_ne (tgt := 23) hx hb dX6_rest_17 (by decide) (fun c17 => ?_) (fun c17 => ?_)
    · refine lv_aload_n hx hb dX6_rest_23 rfl (lv_at hl 0 rfl) ?_
      refine s_getN (v := .int (hs sl)) fb3 cf hw 2 rfl 0 rfl q279 rfl dX6_rest_24 ?_
      refine lv_iconst (v := 3) hx hb dX6_rest_27 (by decide) ?_
      refine lv_icmp_eq (tgt := 34) hx hb dX6_rest_28 (by decide) (fun c28 => ?_) (fun c28 => ?_)
      · refine lv_iload_n hx hb dX6_rest_34 rfl (lv_at hl 3 rfl) ?_
        refine lv_if_ne (tgt := 44) hx hb dX6_rest_35 (by decide) (fun c35 => ?_) (fun c35 => ?_)
        · refine lv_aload_n hx hb dX6_rest_44 rfl (lv_at hl 0 rfl) ?_
          refine s_getN (v := .int (nn sl)) fb3 cf hw 2 rfl 5 rfl q288 rfl dX6_rest_45 ?_
          refine lv_iload_n hx hb dX6_rest_48 rfl (lv_at hl 3 rfl) ?_
          refine lv_irem hx hb dX6_rest_49 c35 ?_
          have hw : WD g A s H locs [bO o 6 (cF (lad 0) t t3 t2 ch kp tp wt), bR g 3 (ch 9) 5 (fun k => some (la k)), slB g la ra qa hs kd st_l co he nn rs rl rp] := WD.cls3 (pre := [bO o 6 (cF (lad 0) t t3 t2 ch kp tp wt), bR g 3 (ch 9) 5 (fun k => some (la k))]) hw (sl_opn (j := sl) (by omega))
          exact s_iret cf hr hlk () hw (by unfold R_rest; rw [if_pos hS, hclsl, if_neg c17, if_pos c28, if_neg c35, (hso sl (by omega)).2.1 c28]; by_cases z : y = -1; rw [if_pos z, z]; exact rem_m1 _; rw [if_neg z]; rfl) (Nat.le_of_ble_eq_true rfl) (Nat.le_of_ble_eq_true rfl) dX6_rest_50 hQ
        · refine lv_ldcw hx hb hown (hts _ q894) dX6_rest_38 ?_
          refine lv_goto (tgt := 50) hx hb dX6_rest_41 (by decide) ?_
          have hw : WD g A s H locs [bO o 6 (cF (lad 0) t t3 t2 ch kp tp wt), bR g 3 (ch 9) 5 (fun k => some (la k)), slB g la ra qa hs kd st_l co he nn rs rl rp] := WD.cls3 (pre := [bO o 6 (cF (lad 0) t t3 t2 ch kp tp wt), bR g 3 (ch 9) 5 (fun k => some (la k))]) hw (sl_opn (j := sl) (by omega))
          exact s_iret cf hr hlk () hw (by unfold R_rest; rw [if_pos hS, hclsl, if_neg c17, if_pos c28, if_pos c35]) (Nat.le_of_ble_eq_true rfl) (Nat.le_of_ble_eq_true rfl) dX6_rest_50 hQ
      · refine lv_ldc hx hb hown (hts _ q441) dX6_rest_31 ?_
        have hw : WD g A s H locs [bO o 6 (cF (lad 0) t t3 t2 ch kp tp wt), bR g 3 (ch 9) 5 (fun k => some (la k)), slB g la ra qa hs kd st_l co he nn rs rl rp] := WD.cls3 (pre := [bO o 6 (cF (lad 0) t t3 t2 ch kp tp wt), bR g 3 (ch 9) 5 (fun k => some (la k))]) hw (sl_opn (j := sl) (by omega))
        exact s_iret cf hr hlk () hw (by unfold R_rest; rw [if_pos hS, hclsl, if_neg c17, if_neg c28]) (Nat.le_of_ble_eq_true rfl) (Nat.le_of_ble_eq_true rfl) dX6_rest_33 hQ
    · refine lv_ldc hx hb hown (hts _ q600) dX6_rest_20 ?_
      have hw : WD g A s H locs [bO o 6 (cF (lad 0) t t3 t2 ch kp tp wt), bR g 3 (ch 9) 5 (fun k => some (la k)), slB g la ra qa hs kd st_l co he nn rs rl rp] := WD.cls3 (pre := [bO o 6 (cF (lad 0) t t3 t2 ch kp tp wt), bR g 3 (ch 9) 5 (fun k => some (la k))]) hw (sl_opn (j := sl) (by omega))
      exact s_iret cf hr hlk () hw (by unfold R_rest; rw [if_pos hS, hclsl, if_pos c17]) (Nat.le_of_ble_eq_true rfl) (Nat.le_of_ble_eq_true rfl) dX6_rest_22 hQ
  · refine lv_topv (y := .null) (by rw [if_neg hS]; rfl) ?_
    refine lv_astore_nN (lv' := [(3, .null), (0, .ref o), (1, .int x), (2, .int y)]) hx hb dX6_rest_5 rfl hl (by decide) rfl (fun ls hl => ?_)
    refine lv_aload_nN hx hb dX6_rest_6 rfl (lv_at hl 0 rfl) ?_
    refine lv_ifnonnullN hx hb dX6_rest_7 ?_
    refine lv_ldc hx hb hown (hts _ q356) dX6_rest_10 ?_
    exact s_iret cf hr hlk () hw (by unfold R_rest; rw [if_neg hS]) (Nat.le_of_ble_eq_true rfl) (Nat.le_of_ble_eq_true rfl) dX6_rest_12 hQ
set_option maxRecDepth 100000 in
set_option maxHeartbeats 4000000 in
theorem c_item {l : Launch} {g : GG} {t : Nat} {lad : Nat → Nat} {o t2 t3 : Nat} {ch : Nat → Nat} {kp tp wt : Int32} {la ra qa : Nat → Nat} {hs kd st_l co he nn rs rl : DD} {rp : Nat → DD} {si sk ss sn sb : DD} (hso : SlOK kd st_l co he nn rl rp hs si sk ss sn sb) (x y : Int32) : Ct l g yX6_item cX6_item 4 (Option.some Jvm.ClassFile.FieldType.int) 2 0 0 [.ref o, .int x, .int y] [bO o 6 (cF (lad 0) t t3 t2 ch kp tp wt), bR g 3 (ch 9) 5 (fun k => some (la k)), slB g la ra qa hs kd st_l co he nn rs rl rp] (QI g (fun r (_ : Unit) => r = R_item hs ss sn sb x y) (fun _ => [bO o 6 (cF (lad 0) t t3 t2 ch kp tp wt), bR g 3 (ch 9) 5 (fun k => some (la k)), slB g la ra qa hs kd st_l co he nn rs rl rp])) := by
  refine Ct.of (by decide) rfl ?_
  intro p e s m args below meth c A H locs ls Qf cf hr hlk hnm hQ hw hl
  have hx := cf.1
  have hb := cf.2.1
  have hml := cf.2.2.1
  have hown := cf.2.2.2.1
  have hts := cf.2.2.2.2
  have hw : WD g A s H locs [bO o 6 (cF (lad 0) t t3 t2 ch kp tp wt), bR g 3 (ch 9) 5 (fun k => some (la k)), slB g la ra qa hs kd st_l co he nn rs rl rp] := hw
  have hl : lv_has ls 4 [(0, .ref o), (1, .int x), (2, .int y)] := hl
  refine lv_aload_n hx hb dX6_item_0 rfl (lv_at hl 0 rfl) ?_
  refine lv_iload_n hx hb dX6_item_1 rfl (lv_at hl 1 rfl) ?_
  refine s_callq (runV cf (x_slotAt (t := t) (lad := lad) (o := o) (t2 := t2) (t3 := t3) (ch := ch) (kp := kp) (tp := tp) (wt := wt) (la := la) x) hw [0, 1] (by decide) rfl km_X6_slotAt ki_X6_slotAt q868 (run_recv (ci := 6) (T := TX6) (N := 13) hw 0 rfl rfl) rfl rfl hl.1 rfl dX6_item_2) hw [0, 1] (by decide) rfl (fun _ => rfl) (fun r_3 u_1 H locs hp_2 hw => ?_)
  have hw : WD g A s H locs [bO o 6 (cF (lad 0) t t3 t2 ch kp tp wt), bR g 3 (ch 9) 5 (fun k => some (la k)), slB g la ra qa hs kd st_l co he nn rs rl rp] := hw
  subst hp_2
  by_cases hS : 0 ≤ x ∧ x ≤ 4
  · obtain ⟨sl, hsl3, hslx⟩ := rng_nat (m := 4) (by omega) hS.1 hS.2
    have hclsl : (x).toNatClampNeg = sl := by rw [hslx]; exact nI_clamp (by omega)
    refine lv_topv (y := .ref (la sl)) (by rw [if_pos hS, hclsl]; rfl) ?_
    have hw : WD g A s H locs [bO o 6 (cF (lad 0) t t3 t2 ch kp tp wt), bR g 3 (ch 9) 5 (fun k => some (la k)), bO (la sl) 3 ([.int (hs sl), .int (kd sl), .int (st_l sl), .int (co sl), .int (he sl), .int (nn sl), .ref (ra sl)]), bO (ra sl) 2 ([.ref (qa sl), .int (rs sl), .int (rl sl)]), bI g (qa sl) 24 (rp sl), cEx (slC g la ra qa hs kd st_l co he nn rs rl rp) sl 5] := WD.opn3 (pre := [bO o 6 (cF (lad 0) t t3 t2 ch kp tp wt), bR g 3 (ch 9) 5 (fun k => some (la k))]) hw (sl_opn (j := sl) (by omega))
    refine lv_astore_n (lv' := [(3, .ref (la sl)), (0, .ref o), (1, .int x), (2, .int y)]) hx hb dX6_item_5 rfl hl (by decide) rfl (fun ls hl => ?_)
    refine lv_aload_n hx hb dX6_item_6 rfl (lv_at hl 0 rfl) ?_
    refine lv_ifnonnull (tgt := 13) hx hb dX6_item_7 (by decide) ?_
    refine lv_aload_n hx hb dX6_item_13 rfl (lv_at hl 0 rfl) ?_
    refine s_getN (v := .int (hs sl)) fb3 cf hw 2 rfl 0 rfl q279 rfl dX6_item_14 ?_
    refine lv_if_ne (tgt := 23) hx hb dX6_item_17 (by decide) (fun c17 => ?_) (fun c17 => ?_)
    · refine lv_aload_n hx hb dX6_item_23 rfl (lv_at hl 0 rfl) ?_
      refine s_getN (v := .int (hs sl)) fb3 cf hw 2 rfl 0 rfl q279 rfl dX6_item_24 ?_
      refine lv_iconst (v := 2) hx hb dX6_item_27 (by decide) ?_
      refine lv_icmp_eq (tgt := 34) hx hb dX6_item_28 (by decide) (fun c28 => ?_) (fun c28 => ?_)
      · obtain ⟨⟨m_, hm_24, hm_⟩, hrl, hrp⟩ := (hso sl (by omega)).2.2 c28
        have hw : WD g A s H locs [bO o 6 (cF (lad 0) t t3 t2 ch kp tp wt), bR g 3 (ch 9) 5 (fun k => some (la k)), bO (la sl) 3 ([.int (hs sl), .int (kd sl), .int (st_l sl), .int (co sl), .int (he sl), .int (nn sl), .ref (ra sl)]), bO (ra sl) 2 ([.ref (qa sl), .int (rs sl), .int (nI m_)]), bI g (qa sl) 24 (rp sl), cEx (slC g la ra qa hs kd st_l co he nn rs rl rp) sl 5] := by rw [← hm_, ← hrl]; exact hw
        refine lv_aload_n hx hb dX6_item_34 rfl (lv_at hl 0 rfl) ?_
        refine s_getN (v := .ref (ra sl)) fb3 cf hw 2 rfl 6 rfl q290 rfl dX6_item_35 ?_
        refine lv_iload_n hx hb dX6_item_38 rfl (lv_at hl 3 rfl) ?_
        refine s_calli (runVN cf (x_shHas (sx := ra sl) (px := qa sl) (so_ := rs sl) (m_ := m_) hm_24 y) hw [3] (by decide) rfl km_X2_has ki_X2_has q843 (run_recv (ci := 2) (T := TX2) (N := 3) hw 3 rfl rfl) rfl rfl hl.1 rfl dX6_item_39) hw [3] (by decide) rfl (fun _ => rfl) (fun r_6 u_4 H locs hp_5 hw => ?_)
        have hw : WD g A s H locs [bO o 6 (cF (lad 0) t t3 t2 ch kp tp wt), bR g 3 (ch 9) 5 (fun k => some (la k)), bO (la sl) 3 ([.int (hs sl), .int (kd sl), .int (st_l sl), .int (co sl), .int (he sl), .int (nn sl), .ref (ra sl)]), bO (ra sl) 2 ([.ref (qa sl), .int (rs sl), .int (nI m_)]), bI g (qa sl) 24 (rp sl), cEx (slC g la ra qa hs kd st_l co he nn rs rl rp) sl 5] := hw
        subst hp_5
        refine lv_if_ne (tgt := 48) hx hb dX6_item_42 (by decide) (fun c42 => ?_) (fun c42 => ?_)
        · have c42 := b01_n c42
          obtain ⟨pn, hpn, hpx, hclp⟩ := below_nat (e := nI m_) rfl (by omega) c42
          refine lv_aload_n hx hb dX6_item_48 rfl (lv_at hl 0 rfl) ?_
          refine s_getN (v := .ref (ra sl)) fb3 cf hw 2 rfl 6 rfl q290 rfl dX6_item_49 ?_
          refine lv_iload_n hx hb dX6_item_52 rfl (lv_at hl 3 rfl) ?_
          refine s_calli (runVN cf (x_isNum (sx := ra sl) (px := qa sl) (so_ := rs sl) (m_ := m_) hm_24 (f := rp sl) y) hw [3, 4] (by decide) rfl km_X2_isNumber ki_X2_isNumber q608 (run_recv (ci := 2) (T := TX2) (N := 3) hw 3 rfl rfl) rfl rfl hl.1 rfl dX6_item_53) hw [3, 4] (by decide) rfl (fun _ => rfl) (fun r_9 u_7 H locs hp_8 hw => ?_)
          have hw : WD g A s H locs [bO o 6 (cF (lad 0) t t3 t2 ch kp tp wt), bR g 3 (ch 9) 5 (fun k => some (la k)), bO (la sl) 3 ([.int (hs sl), .int (kd sl), .int (st_l sl), .int (co sl), .int (he sl), .int (nn sl), .ref (ra sl)]), bO (ra sl) 2 ([.ref (qa sl), .int (rs sl), .int (nI m_)]), bI g (qa sl) 24 (rp sl), cEx (slC g la ra qa hs kd st_l co he nn rs rl rp) sl 5] := hw
          subst hp_8
          refine lv_if_eq (tgt := 71) hx hb dX6_item_56 (by decide) (fun c56 => ?_) (fun c56 => ?_)
          · have c56 := b01_z c56
            refine lv_ldc hx hb hown (hts _ q441) dX6_item_71 ?_
            have hw : WD g A s H locs [bO o 6 (cF (lad 0) t t3 t2 ch kp tp wt), bR g 3 (ch 9) 5 (fun k => some (la k)), bO (la sl) 3 ([.int (hs sl), .int (kd sl), .int (st_l sl), .int (co sl), .int (he sl), .int (nn sl), .ref (ra sl)]), bO (ra sl) 2 ([.ref (qa sl), .int (rs sl), .int (rl sl)]), bI g (qa sl) 24 (rp sl), cEx (slC g la ra qa hs kd st_l co he nn rs rl rp) sl 5] := by rw [hrl, hm_]; exact hw
            have hw : WD g A s H locs [bO o 6 (cF (lad 0) t t3 t2 ch kp tp wt), bR g 3 (ch 9) 5 (fun k => some (la k)), slB g la ra qa hs kd st_l co he nn rs rl rp] := WD.cls3 (pre := [bO o 6 (cF (lad 0) t t3 t2 ch kp tp wt), bR g 3 (ch 9) 5 (fun k => some (la k))]) hw (sl_opn (j := sl) (by omega))
            have hpv := hrp pn (by omega)
            exact s_iret cf hr hlk () hw (by unfold R_item; rw [if_pos hS, hclsl, if_neg c17, if_pos c28, hm_, if_pos c42, hclp, if_pos (Decidable.byContradiction (fun z => c56 ⟨c42, by rw [hclp, hpv.1]; unfold plV; rw [if_neg z]; exact hpv.2⟩))]) (Nat.le_of_ble_eq_true rfl) (Nat.le_of_ble_eq_true rfl) dX6_item_73 hQ
          · have c56 := b01_n c56
            have hl : lv_has ls 4 [(3, .ref (la sl)), (0, .ref o), (1, .int x), (2, .int (nI pn))] := by rw [← hpx]; exact hl
            refine lv_aload_n hx hb dX6_item_59 rfl (lv_at hl 0 rfl) ?_
            refine s_getN (v := .ref (ra sl)) fb3 cf hw 2 rfl 6 rfl q290 rfl dX6_item_60 ?_
            refine s_getN (v := .ref (qa sl)) fb2 cf hw 3 rfl 0 rfl q259 rfl dX6_item_63 ?_
            refine lv_iload_n hx hb dX6_item_66 rfl (lv_at hl 3 rfl) ?_
            refine s_iald (j := pn) cf hw 4 rfl (rfl) (by omega) rfl dX6_item_67 ?_
            refine lv_goto (tgt := 73) hx hb dX6_item_68 (by decide) ?_
            have hw : WD g A s H locs [bO o 6 (cF (lad 0) t t3 t2 ch kp tp wt), bR g 3 (ch 9) 5 (fun k => some (la k)), bO (la sl) 3 ([.int (hs sl), .int (kd sl), .int (st_l sl), .int (co sl), .int (he sl), .int (nn sl), .ref (ra sl)]), bO (ra sl) 2 ([.ref (qa sl), .int (rs sl), .int (rl sl)]), bI g (qa sl) 24 (rp sl), cEx (slC g la ra qa hs kd st_l co he nn rs rl rp) sl 5] := by rw [hrl, hm_]; exact hw
            have hw : WD g A s H locs [bO o 6 (cF (lad 0) t t3 t2 ch kp tp wt), bR g 3 (ch 9) 5 (fun k => some (la k)), slB g la ra qa hs kd st_l co he nn rs rl rp] := WD.cls3 (pre := [bO o 6 (cF (lad 0) t t3 t2 ch kp tp wt), bR g 3 (ch 9) 5 (fun k => some (la k))]) hw (sl_opn (j := sl) (by omega))
            have hpv := hrp pn (by omega)
            exact s_iret cf hr hlk () hw (by unfold R_item; rw [if_pos hS, hclsl, if_neg c17, if_pos c28, hm_, if_pos c42, hclp, if_neg (fun z => c56.2 (by rw [hclp, hpv.1]; exact if_pos z))]; rw [hpv.1]; exact if_neg (fun z => c56.2 (by rw [hclp, hpv.1]; exact if_pos z))) (Nat.le_of_ble_eq_true rfl) (Nat.le_of_ble_eq_true rfl) dX6_item_73 hQ
        · have c42 := b01_z c42
          refine lv_ldc hx hb hown (hts _ q844) dX6_item_45 ?_
          have hw : WD g A s H locs [bO o 6 (cF (lad 0) t t3 t2 ch kp tp wt), bR g 3 (ch 9) 5 (fun k => some (la k)), bO (la sl) 3 ([.int (hs sl), .int (kd sl), .int (st_l sl), .int (co sl), .int (he sl), .int (nn sl), .ref (ra sl)]), bO (ra sl) 2 ([.ref (qa sl), .int (rs sl), .int (rl sl)]), bI g (qa sl) 24 (rp sl), cEx (slC g la ra qa hs kd st_l co he nn rs rl rp) sl 5] := by rw [hrl, hm_]; exact hw
          have hw : WD g A s H locs [bO o 6 (cF (lad 0) t t3 t2 ch kp tp wt), bR g 3 (ch 9) 5 (fun k => some (la k)), slB g la ra qa hs kd st_l co he nn rs rl rp] := WD.cls3 (pre := [bO o 6 (cF (lad 0) t t3 t2 ch kp tp wt), bR g 3 (ch 9) 5 (fun k => some (la k))]) hw (sl_opn (j := sl) (by omega))
          exact s_iret cf hr hlk () hw (by unfold R_item; rw [if_pos hS, hclsl, if_neg c17, if_pos c28, hm_, if_neg c42]) (Nat.le_of_ble_eq_true rfl) (Nat.le_of_ble_eq_true rfl) dX6_item_47 hQ
      · refine lv_ldc hx hb hown (hts _ q441) dX6_item_31 ?_
        have hw : WD g A s H locs [bO o 6 (cF (lad 0) t t3 t2 ch kp tp wt), bR g 3 (ch 9) 5 (fun k => some (la k)), slB g la ra qa hs kd st_l co he nn rs rl rp] := WD.cls3 (pre := [bO o 6 (cF (lad 0) t t3 t2 ch kp tp wt), bR g 3 (ch 9) 5 (fun k => some (la k))]) hw (sl_opn (j := sl) (by omega))
        exact s_iret cf hr hlk () hw (by unfold R_item; rw [if_pos hS, hclsl, if_neg c17, if_neg c28]) (Nat.le_of_ble_eq_true rfl) (Nat.le_of_ble_eq_true rfl) dX6_item_33 hQ
    · refine lv_ldc hx hb hown (hts _ q600) dX6_item_20 ?_
      have hw : WD g A s H locs [bO o 6 (cF (lad 0) t t3 t2 ch kp tp wt), bR g 3 (ch 9) 5 (fun k => some (la k)), slB g la ra qa hs kd st_l co he nn rs rl rp] := WD.cls3 (pre := [bO o 6 (cF (lad 0) t t3 t2 ch kp tp wt), bR g 3 (ch 9) 5 (fun k => some (la k))]) hw (sl_opn (j := sl) (by omega))
      exact s_iret cf hr hlk () hw (by unfold R_item; rw [if_pos hS, hclsl, if_pos c17]) (Nat.le_of_ble_eq_true rfl) (Nat.le_of_ble_eq_true rfl) dX6_item_22 hQ
  · refine lv_topv (y := .null) (by rw [if_neg hS]; rfl) ?_
    refine lv_astore_nN (lv' := [(3, .null), (0, .ref o), (1, .int x), (2, .int y)]) hx hb dX6_item_5 rfl hl (by decide) rfl (fun ls hl => ?_)
    refine lv_aload_nN hx hb dX6_item_6 rfl (lv_at hl 0 rfl) ?_
    refine lv_ifnonnullN hx hb dX6_item_7 ?_
    refine lv_ldc hx hb hown (hts _ q356) dX6_item_10 ?_
    exact s_iret cf hr hlk () hw (by unfold R_item; rw [if_neg hS]) (Nat.le_of_ble_eq_true rfl) (Nat.le_of_ble_eq_true rfl) dX6_item_12 hQ
