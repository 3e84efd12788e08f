set_option maxRecDepth 100000 in
set_option maxHeartbeats 4000000 in
theorem c_sheet {l : Launch} {g : GG} {t : Nat} {lad : Nat → Nat} {o t2 t3 : Nat} {ch : Nat → Nat} {kp tp wt : Int32} {sa pa : Nat → Nat} {so sz nu isn : DD} {pl : Nat → DD} (hsh : ShOK so sz pl nu isn) (x s_ n_ : Int32) : Ct l g yX6_sheet cX6_sheet 6 (Option.some Jvm.ClassFile.FieldType.int) 2 0 0 [.ref o, .int x, .int s_, .int n_] [bO o 6 (cF (lad 0) t t3 t2 ch kp tp wt), bR g 2 (ch 8) 4 (fun k => some (sa k)), shB g sa pa so sz pl] (QI g (fun r (_ : Unit) => r = R_sheet x s_ n_) (fun _ => [bO o 6 (cF (lad 0) t t3 t2 ch kp tp wt), bR g 2 (ch 8) 4 (fun k => some (sa k)), shB g sa pa (D_sheet1 so x s_ n_) (D_sheet2 sz x s_ n_) (D_sheetP pl x s_ n_)])) := by
  refine Ct.of (by decide) rfl ?_
  intro p e s m args below meth c A H locs ls Qf cf hr hlk hnm hQ hw hl
  have hx := cf.1
  have hb := cf.2.1
  have hml := cf.2.2.1
  have hown := cf.2.2.2.1
  have hts := cf.2.2.2.2
  have hw : WD g A s H locs [bO o 6 (cF (lad 0) t t3 t2 ch kp tp wt), bR g 2 (ch 8) 4 (fun k => some (sa k)), shB g sa pa so sz pl] := hw
  have hl : lv_has ls 6 [(0, .ref o), (1, .int x), (2, .int s_), (3, .int n_)] := hl
  refine lv_aload_n hx hb dX6_sheet_0 rfl (lv_at hl 0 rfl) ?_
  refine lv_iload_n hx hb dX6_sheet_1 rfl (lv_at hl 1 rfl) ?_
  refine s_callq (runV cf (x_sheetAt (t := t) (lad := lad) (o := o) (t2 := t2) (t3 := t3) (ch := ch) (kp := kp) (tp := tp) (wt := wt) (sa := sa) x) hw [0, 1] (by decide) rfl km_X6_sheetAt ki_X6_sheetAt q596 (run_recv (ci := 6) (T := TX6) (N := 13) hw 0 rfl rfl) rfl rfl hl.1 rfl dX6_sheet_2) hw [0, 1] (by decide) rfl (fun _ => rfl) (fun r_3 u_1 H locs hp_2 hw => ?_)
  have hw : WD g A s H locs [bO o 6 (cF (lad 0) t t3 t2 ch kp tp wt), bR g 2 (ch 8) 4 (fun k => some (sa k)), shB g sa pa so sz pl] := hw
  subst hp_2
  by_cases hS : 0 ≤ x ∧ x ≤ 3
  · obtain ⟨j, hj3, hjx⟩ := rng_nat (m := 3) (by omega) hS.1 hS.2
    have hclj : (x).toNatClampNeg = j := by rw [hjx]; exact nI_clamp (by omega)
    refine lv_topv (y := .ref (sa j)) (by rw [if_pos hS, hclj]; rfl) ?_
    obtain ⟨m_, hm_24, hm_⟩ := (hsh j (by omega)).2.1
    have hw : WD g A s H locs [bO o 6 (cF (lad 0) t t3 t2 ch kp tp wt), bR g 2 (ch 8) 4 (fun k => some (sa k)), bO (sa j) 2 ([.ref (pa j), .int (so j), .int (sz j)]), bI g (pa j) 24 (pl j), cEx (shC g sa pa so sz pl) j 4] := WD.opnM (pre := [bO o 6 (cF (lad 0) t t3 t2 ch kp tp wt), bR g 2 (ch 8) 4 (fun k => some (sa k))]) (post := []) hw (sh_opn (j := j) (by omega))
    have hw : WD g A s H locs [bO o 6 (cF (lad 0) t t3 t2 ch kp tp wt), bR g 2 (ch 8) 4 (fun k => some (sa k)), bO (sa j) 2 ([.ref (pa j), .int (so j), .int (nI m_)]), bI g (pa j) 24 (pl j), cEx (shC g sa pa so sz pl) j 4] := by rw [← hm_]; exact hw
    refine lv_astore (lv' := [(4, .ref (sa j)), (0, .ref o), (1, .int x), (2, .int s_), (3, .int n_)]) hx hb dX6_sheet_5 hl (by decide) rfl (fun ls hl => ?_)
    refine lv_aload hx hb dX6_sheet_7 (lv_at hl 0 rfl) ?_
    refine lv_ifnull hx hb dX6_sheet_9 ?_
    refine lv_iload_n hx hb dX6_sheet_12 rfl (lv_at hl 3 rfl) ?_
    refine lv_iconst (v := (-1)) hx hb dX6_sheet_13 (by decide) ?_
    refine lv_icmp_lt (tgt := 22) hx hb dX6_sheet_14 (by decide) (fun c14 => ?_) (fun c14 => ?_)
    · refine lv_ldc hx hb hown (hts _ q356) dX6_sheet_22 ?_
      have hw : WD g A s H locs [bO o 6 (cF (lad 0) t t3 t2 ch kp tp wt), bR g 2 (ch 8) 4 (fun k => some (sa k)), bO (sa j) 2 ([.ref (pa j), .int (so j), .int (sz j)]), bI g (pa j) 24 (pl j), cEx (shC g sa pa so sz pl) j 4] := by rw [hm_]; exact hw
      have hw : WD g A s H locs [bO o 6 (cF (lad 0) t t3 t2 ch kp tp wt), bR g 2 (ch 8) 4 (fun k => some (sa k)), shB g sa pa so sz pl] := WD.clsM (pre := [bO o 6 (cF (lad 0) t t3 t2 ch kp tp wt), bR g 2 (ch 8) 4 (fun k => some (sa k))]) (post := []) hw (sh_opn (j := j) (by omega))
      have hbad : badSheet x s_ n_ := Or.inr (Or.inl (fun z => absurd z.1 (Int32.not_le.mpr c14)))
      exact s_iret cf hr hlk () (by have q1 : D_sheet1 so x s_ n_ = so := if_neg (fun z => z.1 hbad); have q2 : D_sheet2 sz x s_ n_ = sz := if_neg (fun z => z.1 hbad); have q3 : D_sheetP pl x s_ n_ = pl := if_neg (fun z => z.1 hbad); rw [q1, q2, q3]; exact hw) (by unfold R_sheet; rw [if_pos hbad]) (Nat.le_of_ble_eq_true rfl) (Nat.le_of_ble_eq_true rfl) dX6_sheet_24 hQ
    · refine lv_iload_n hx hb dX6_sheet_17 rfl (lv_at hl 3 rfl) ?_
      refine lv_iconst (v := 1) hx hb dX6_sheet_18 (by decide) ?_
      refine lv_icmp_le (tgt := 25) hx hb dX6_sheet_19 (by decide) (fun c19 => ?_) (fun c19 => ?_)
      · refine lv_iload_n hx hb dX6_sheet_25 rfl (lv_at hl 3 rfl) ?_
        refine lv_iconst (v := (-1)) hx hb dX6_sheet_26 (by decide) ?_
        refine lv_icmp_ne (tgt := 34) hx hb dX6_sheet_27 (by decide) (fun c27 => ?_) (fun c27 => ?_)
        · have hnn : ¬ s_ < 0 := by have h1 := Int32.not_lt.mp c14; grind
          refine lv_iload_n hx hb dX6_sheet_34 rfl (lv_at hl 4 rfl) ?_
          refine lv_istore (lv' := [(5, .int n_), (4, .ref (sa j)), (0, .ref o), (1, .int x), (2, .int s_), (3, .int n_)]) hx hb dX6_sheet_35 hl (by decide) rfl (fun ls hl => ?_)
          refine lv_iload hx hb dX6_sheet_37 (lv_at hl 0 rfl) ?_
          refine lv_bipush (v := 24) hx hb dX6_sheet_39 (by decide) ?_
          refine lv_icmp_le (tgt := 47) hx hb dX6_sheet_41 (by decide) (fun c41 => ?_) (fun c41 => ?_)
          · refine lv_iload hx hb dX6_sheet_47 (lv_at hl 0 rfl) ?_
            refine lv_if_ge (tgt := 55) hx hb dX6_sheet_49 (by decide) (fun c49 => ?_) (fun c49 => ?_)
            · refine lv_aload hx hb dX6_sheet_55 (lv_at hl 1 rfl) ?_
              refine lv_iload_n hx hb dX6_sheet_57 rfl (lv_at hl 4 rfl) ?_
              refine lv_iload hx hb dX6_sheet_58 (lv_at hl 0 rfl) ?_
              refine s_callv (runVN cf (x_clear (sx := sa j) (px := pa j) (so_ := so j) (ln_ := nI m_) (f := pl j) s_ n_) hw [2, 3] (by decide) rfl km_X2_clear ki_X2_clear q834 (run_recv (ci := 2) (T := TX2) (N := 3) hw 2 rfl rfl) rfl rfl hl.1 rfl dX6_sheet_60) hw [2, 3] (by decide) rfl (fun _ => rfl) (fun u_4 H locs hp_5 hw => ?_)
              have hw : WD g A s H locs [bO o 6 (cF (lad 0) t t3 t2 ch kp tp wt), bR g 2 (ch 8) 4 (fun k => some (sa k)), bO (sa j) 2 ([.ref (pa j), .int s_, .int n_]), bI g (pa j) 24 (fun _ => 0), cEx (shC g sa pa so sz pl) j 4] := hw
              refine lv_iload hx hb dX6_sheet_63 (lv_at hl 0 rfl) ?_
              have hok : okSheet x s_ n_ := ⟨fun z => by rcases z with z | z | z; exact z hS; exact z ⟨Int32.not_lt.mp c14, c19⟩; exact z.2 c41, fun z => z.2 c49⟩
              have hw : WD g A s H locs [bO o 6 (cF (lad 0) t t3 t2 ch kp tp wt), bR g 2 (ch 8) 4 (fun k => some (sa k)), shB g sa pa (upd so j s_) (upd sz j n_) (updP pl j (fun _ => 0))] := WD.clsM (pre := [bO o 6 (cF (lad 0) t t3 t2 ch kp tp wt), bR g 2 (ch 8) 4 (fun k => some (sa k))]) (post := []) hw (sh_cls (j := j) (by omega))
              exact s_iret cf hr hlk () (by have q1 : D_sheet1 so x s_ n_ = upd so j s_ := (if_pos hok).trans (by rw [hclj]); have q2 : D_sheet2 sz x s_ n_ = upd sz j n_ := (if_pos hok).trans (by rw [hclj, if_neg hnn]); have q3 : D_sheetP pl x s_ n_ = updP pl j (fun _ => 0) := (if_pos hok).trans (by rw [hclj]); rw [q1, q2, q3]; exact hw) (by unfold R_sheet; rw [if_neg hok.1, if_neg hok.2, if_neg hnn]) (Nat.le_of_ble_eq_true rfl) (Nat.le_of_ble_eq_true rfl) dX6_sheet_65 hQ
            · refine lv_ldc hx hb hown (hts _ q833) dX6_sheet_52 ?_
              have hw : WD g A s H locs [bO o 6 (cF (lad 0) t t3 t2 ch kp tp wt), bR g 2 (ch 8) 4 (fun k => some (sa k)), bO (sa j) 2 ([.ref (pa j), .int (so j), .int (sz j)]), bI g (pa j) 24 (pl j), cEx (shC g sa pa so sz pl) j 4] := by rw [hm_]; exact hw
              have hw : WD g A s H locs [bO o 6 (cF (lad 0) t t3 t2 ch kp tp wt), bR g 2 (ch 8) 4 (fun k => some (sa k)), shB g sa pa so sz pl] := WD.clsM (pre := [bO o 6 (cF (lad 0) t t3 t2 ch kp tp wt), bR g 2 (ch 8) 4 (fun k => some (sa k))]) (post := []) hw (sh_opn (j := j) (by omega))
              have hgd : ¬ badSheet x s_ n_ := fun z => by rcases z with z | z | z; exact z hS; exact z ⟨Int32.not_lt.mp c14, c19⟩; exact z.2 c41
              exact s_iret cf hr hlk () (by have q1 : D_sheet1 so x s_ n_ = so := if_neg (fun z => z.2 ⟨hnn, c49⟩); have q2 : D_sheet2 sz x s_ n_ = sz := if_neg (fun z => z.2 ⟨hnn, c49⟩); have q3 : D_sheetP pl x s_ n_ = pl := if_neg (fun z => z.2 ⟨hnn, c49⟩); rw [q1, q2, q3]; exact hw) (by unfold R_sheet; rw [if_neg hgd, if_pos ⟨hnn, c49⟩]) (Nat.le_of_ble_eq_true rfl) (Nat.le_of_ble_eq_true rfl) dX6_sheet_54 hQ
          · refine lv_ldc hx hb hown (hts _ q356) dX6_sheet_44 ?_
            have hw : WD g A s H locs [bO o 6 (cF (lad 0) t t3 t2 ch kp tp wt), bR g 2 (ch 8) 4 (fun k => some (sa k)), bO (sa j) 2 ([.ref (pa j), .int (so j), .int (sz j)]), bI g (pa j) 24 (pl j), cEx (shC g sa pa so sz pl) j 4] := by rw [hm_]; exact hw
            have hw : WD g A s H locs [bO o 6 (cF (lad 0) t t3 t2 ch kp tp wt), bR g 2 (ch 8) 4 (fun k => some (sa k)), shB g sa pa so sz pl] := WD.clsM (pre := [bO o 6 (cF (lad 0) t t3 t2 ch kp tp wt), bR g 2 (ch 8) 4 (fun k => some (sa k))]) (post := []) hw (sh_opn (j := j) (by omega))
            have hbad : badSheet x s_ n_ := Or.inr (Or.inr ⟨hnn, c41⟩)
            exact s_iret cf hr hlk () (by have q1 : D_sheet1 so x s_ n_ = so := if_neg (fun z => z.1 hbad); have q2 : D_sheet2 sz x s_ n_ = sz := if_neg (fun z => z.1 hbad); have q3 : D_sheetP pl x s_ n_ = pl := if_neg (fun z => z.1 hbad); rw [q1, q2, q3]; exact hw) (by unfold R_sheet; rw [if_pos hbad]) (Nat.le_of_ble_eq_true rfl) (Nat.le_of_ble_eq_true rfl) dX6_sheet_46 hQ
        · have hneg : s_ < 0 := by rw [c27]; decide
          refine lv_iconst (v := 0) hx hb dX6_sheet_30 (by decide) ?_
          refine lv_goto (tgt := 35) hx hb dX6_sheet_31 (by decide) ?_
          refine lv_istore (lv' := [(5, .int 0), (4, .ref (sa j)), (0, .ref o), (1, .int x), (2, .int s_), (3, .int n_)]) hx hb dX6_sheet_35 hl (by decide) rfl (fun ls hl => ?_)
          refine lv_iload hx hb dX6_sheet_37 (lv_at hl 0 rfl) ?_
          refine lv_bipush (v := 24) hx hb dX6_sheet_39 (by decide) ?_
          refine lv_icmp_le (tgt := 47) hx hb dX6_sheet_41 (by decide) (fun c41 => ?_) (fun c41 => ?_)
          · refine lv_iload hx hb dX6_sheet_47 (lv_at hl 0 rfl) ?_
            refine lv_if_ge (tgt := 55) hx hb dX6_sheet_49 (by decide) (fun c49 => ?_) (fun c49 => ?_)
            · refine lv_aload hx hb dX6_sheet_55 (lv_at hl 1 rfl) ?_
              refine lv_iload_n hx hb dX6_sheet_57 rfl (lv_at hl 4 rfl) ?_
              refine lv_iload hx hb dX6_sheet_58 (lv_at hl 0 rfl) ?_
              refine s_callv (runVN cf (x_clear (sx := sa j) (px := pa j) (so_ := so j) (ln_ := nI m_) (f := pl j) s_ 0) hw [2, 3] (by decide) rfl km_X2_clear ki_X2_clear q834 (run_recv (ci := 2) (T := TX2) (N := 3) hw 2 rfl rfl) rfl rfl hl.1 rfl dX6_sheet_60) hw [2, 3] (by decide) rfl (fun _ => rfl) (fun u_6 H locs hp_7 hw => ?_)
              have hw : WD g A s H locs [bO o 6 (cF (lad 0) t t3 t2 ch kp tp wt), bR g 2 (ch 8) 4 (fun k => some (sa k)), bO (sa j) 2 ([.ref (pa j), .int s_, .int 0]), bI g (pa j) 24 (fun _ => 0), cEx (shC g sa pa so sz pl) j 4] := hw
              refine lv_iload hx hb dX6_sheet_63 (lv_at hl 0 rfl) ?_
              have hok : okSheet x s_ n_ := ⟨fun z => by rcases z with z | z | z; exact z hS; exact z ⟨Int32.not_lt.mp c14, c19⟩; exact z.1 hneg, fun z => z.1 hneg⟩
              have hw : WD g A s H locs [bO o 6 (cF (lad 0) t t3 t2 ch kp tp wt), bR g 2 (ch 8) 4 (fun k => some (sa k)), shB g sa pa (upd so j s_) (upd sz j 0) (updP pl j (fun _ => 0))] := WD.clsM (pre := [bO o 6 (cF (lad 0) t t3 t2 ch kp tp wt), bR g 2 (ch 8) 4 (fun k => some (sa k))]) (post := []) hw (sh_cls (j := j) (by omega))
              exact s_iret cf hr hlk () (by have q1 : D_sheet1 so x s_ n_ = upd so j s_ := (if_pos hok).trans (by rw [hclj]); have q2 : D_sheet2 sz x s_ n_ = upd sz j 0 := (if_pos hok).trans (by rw [hclj, if_pos hneg]); have q3 : D_sheetP pl x s_ n_ = updP pl j (fun _ => 0) := (if_pos hok).trans (by rw [hclj]); rw [q1, q2, q3]; exact hw) (by unfold R_sheet; rw [if_neg hok.1, if_neg hok.2, if_pos hneg]) (Nat.le_of_ble_eq_true rfl) (Nat.le_of_ble_eq_true rfl) dX6_sheet_65 hQ
            · exact absurd c49 (by decide)
          · exact absurd c41 (by decide)
      · refine lv_ldc hx hb hown (hts _ q356) dX6_sheet_22 ?_
        have hw : WD g A s H locs [bO o 6 (cF (lad 0) t t3 t2 ch kp tp wt), bR g 2 (ch 8) 4 (fun k => some (sa k)), bO (sa j) 2 ([.ref (pa j), .int (so j), .int (sz j)]), bI g (pa j) 24 (pl j), cEx (shC g sa pa so sz pl) j 4] := by rw [hm_]; exact hw
        have hw : WD g A s H locs [bO o 6 (cF (lad 0) t t3 t2 ch kp tp wt), bR g 2 (ch 8) 4 (fun k => some (sa k)), shB g sa pa so sz pl] := WD.clsM (pre := [bO o 6 (cF (lad 0) t t3 t2 ch kp tp wt), bR g 2 (ch 8) 4 (fun k => some (sa k))]) (post := []) hw (sh_opn (j := j) (by omega))
        have hbad : badSheet x s_ n_ := Or.inr (Or.inl (fun z => c19 z.2))
        exact s_iret cf hr hlk () (by have q1 : D_sheet1 so x s_ n_ = so := if_neg (fun z => z.1 hbad); have q2 : D_sheet2 sz x s_ n_ = sz := if_neg (fun z => z.1 hbad); have q3 : D_sheetP pl x s_ n_ = pl := if_neg (fun z => z.1 hbad); rw [q1, q2, q3]; exact hw) (by unfold R_sheet; rw [if_pos hbad]) (Nat.le_of_ble_eq_true rfl) (Nat.le_of_ble_eq_true rfl) dX6_sheet_24 hQ
  · refine lv_topv (y := .null) (by rw [if_neg hS]; rfl) ?_
    refine lv_astoreN (lv' := [(4, .null), (0, .ref o), (1, .int x), (2, .int s_), (3, .int n_)]) hx hb dX6_sheet_5 hl (by decide) rfl (fun ls hl => ?_)
    refine lv_aloadN hx hb dX6_sheet_7 (lv_at hl 0 rfl) ?_
    refine lv_ifnullN (tgt := 22) hx hb dX6_sheet_9 (by decide) ?_
    refine lv_ldc hx hb hown (hts _ q356) dX6_sheet_22 ?_
    have hbad : badSheet x s_ n_ := Or.inl hS
    exact s_iret cf hr hlk () (by have q1 : D_sheet1 so x s_ n_ = so := if_neg (fun z => z.1 hbad); have q2 : D_sheet2 sz x s_ n_ = sz := if_neg (fun z => z.1 hbad); have q3 : D_sheetP pl x s_ n_ = pl := if_neg (fun z => z.1 hbad); rw [q1, q2, q3]; exact hw) (by unfold R_sheet; rw [if_pos hbad]) (Nat.le_of_ble_eq_true rfl) (Nat.le_of_ble_eq_true rfl) dX6_sheet_24 hQ
set_option maxRecDepth 100000 in
set_option maxHeartbeats 4000000 in
theorem c_mark {l : Launch} {g : GG} {t : Nat} {lad : Nat → Nat} {o t2 t3 : Nat} {ch : Nat → Nat} {kp tp wt : Int32} {sa pa : Nat → Nat} {so sz nu isn : DD} {pl : Nat → DD} (hsh : ShOK so sz pl nu isn) (x p_ v : Int32) : Ct l g yX6_mark cX6_mark 5 (Option.some Jvm.ClassFile.FieldType.int) 1 0 0 [.ref o, .int x, .int p_, .int v] [bO o 6 (cF (lad 0) t t3 t2 ch kp tp wt), bR g 2 (ch 8) 4 (fun k => some (sa k)), shB g sa pa so sz pl] (QI g (fun r (_ : Unit) => r = R_mark so sz x p_ v) (fun _ => [bO o 6 (cF (lad 0) t t3 t2 ch kp tp wt), bR g 2 (ch 8) 4 (fun k => some (sa k)), shB g sa pa so sz (D_markP so sz pl x p_ v)])) := by
  refine Ct.of (by decide) rfl ?_
  intro p e s m args below meth c A H locs ls Qf cf hr hlk hnm hQ hw hl
  have hx := cf.1
  have hb := cf.2.1
  have hml := cf.2.2.1
  have hown := cf.2.2.2.1
  have hts := cf.2.2.2.2
  have hw : WD g A s H locs [bO o 6 (cF (lad 0) t t3 t2 ch kp tp wt), bR g 2 (ch 8) 4 (fun k => some (sa k)), shB g sa pa so sz pl] := hw
  have hl : lv_has ls 5 [(0, .ref o), (1, .int x), (2, .int p_), (3, .int v)] := hl
  refine lv_aload_n hx hb dX6_mark_0 rfl (lv_at hl 0 rfl) ?_
  refine lv_iload_n hx hb dX6_mark_1 rfl (lv_at hl 1 rfl) ?_
  refine s_callq (runV cf (x_sheetAt (t := t) (lad := lad) (o := o) (t2 := t2) (t3 := t3) (ch := ch) (kp := kp) (tp := tp) (wt := wt) (sa := sa) x) hw [0, 1] (by decide) rfl km_X6_sheetAt ki_X6_sheetAt q596 (run_recv (ci := 6) (T := TX6) (N := 13) hw 0 rfl rfl) rfl rfl hl.1 rfl dX6_mark_2) hw [0, 1] (by decide) rfl (fun _ => rfl) (fun r_3 u_1 H locs hp_2 hw => ?_)
  have hw : WD g A s H locs [bO o 6 (cF (lad 0) t t3 t2 ch kp tp wt), bR g 2 (ch 8) 4 (fun k => some (sa k)), shB g sa pa so sz pl] := hw
  subst hp_2
  by_cases hS : 0 ≤ x ∧ x ≤ 3
  · obtain ⟨j, hj3, hjx⟩ := rng_nat (m := 3) (by omega) hS.1 hS.2
    have hclj : (x).toNatClampNeg = j := by rw [hjx]; exact nI_clamp (by omega)
    refine lv_topv (y := .ref (sa j)) (by rw [if_pos hS, hclj]; rfl) ?_
    obtain ⟨m_, hm_24, hm_⟩ := (hsh j (by omega)).2.1
    have hw : WD g A s H locs [bO o 6 (cF (lad 0) t t3 t2 ch kp tp wt), bR g 2 (ch 8) 4 (fun k => some (sa k)), bO (sa j) 2 ([.ref (pa j), .int (so j), .int (sz j)]), bI g (pa j) 24 (pl j), cEx (shC g sa pa so sz pl) j 4] := WD.opnM (pre := [bO o 6 (cF (lad 0) t t3 t2 ch kp tp wt), bR g 2 (ch 8) 4 (fun k => some (sa k))]) (post := []) hw (sh_opn (j := j) (by omega))
    have hw : WD g A s H locs [bO o 6 (cF (lad 0) t t3 t2 ch kp tp wt), bR g 2 (ch 8) 4 (fun k => some (sa k)), bO (sa j) 2 ([.ref (pa j), .int (so j), .int (nI m_)]), bI g (pa j) 24 (pl j), cEx (shC g sa pa so sz pl) j 4] := by rw [← hm_]; exact hw
    refine lv_astore (lv' := [(4, .ref (sa j)), (0, .ref o), (1, .int x), (2, .int p_), (3, .int v)]) hx hb dX6_mark_5 hl (by decide) rfl (fun ls hl => ?_)
    refine lv_aload hx hb dX6_mark_7 (lv_at hl 0 rfl) ?_
    refine lv_ifnonnull (tgt := 15) hx hb dX6_mark_9 (by decide) ?_
    refine lv_aload hx hb dX6_mark_15 (lv_at hl 0 rfl) ?_
    refine s_getN (v := .int (so j)) fb2 cf hw 2 rfl 1 rfl q261 rfl dX6_mark_17 ?_
    refine lv_iconst (v := (-1)) hx hb dX6_mark_20 (by decide) ?_
    refine lv_icmp_ne (tgt := 27) hx hb dX6_mark_21 (by decide) (fun c21 => ?_) (fun c21 => ?_)
    · have hnn : ¬ so j < 0 := fun z => c21 ((so_neg hsh (by omega)).mpr z)
      refine lv_aload hx hb dX6_mark_27 (lv_at hl 0 rfl) ?_
      refine lv_iload_n hx hb dX6_mark_29 rfl (lv_at hl 3 rfl) ?_
      refine s_calli (runVN cf (x_shHas (sx := sa j) (px := pa j) (so_ := so j) (m_ := m_) hm_24 p_) hw [2] (by decide) rfl km_X2_has ki_X2_has q843 (run_recv (ci := 2) (T := TX2) (N := 3) hw 2 rfl rfl) rfl rfl hl.1 rfl dX6_mark_30) hw [2] (by decide) rfl (fun _ => rfl) (fun r_6 u_4 H locs hp_5 hw => ?_)
      have hw : WD g A s H locs [bO o 6 (cF (lad 0) t t3 t2 ch kp tp wt), bR g 2 (ch 8) 4 (fun k => some (sa k)), bO (sa j) 2 ([.ref (pa j), .int (so j), .int (nI m_)]), bI g (pa j) 24 (pl j), cEx (shC g sa pa so sz pl) j 4] := hw
      subst hp_5
      refine lv_if_ne (tgt := 39) hx hb dX6_mark_33 (by decide) (fun c33 => ?_) (fun c33 => ?_)
      · have c33 := b01_n c33
        obtain ⟨pn, hpn, hpx, hclp⟩ := below_nat (e := nI m_) rfl (by omega) c33
        have hl : lv_has ls 5 [(4, .ref (sa j)), (0, .ref o), (1, .int x), (2, .int (nI pn)), (3, .int v)] := by rw [← hpx]; exact hl
        refine lv_aload hx hb dX6_mark_39 (lv_at hl 0 rfl) ?_
        refine s_getN (v := .int (so j)) fb2 cf hw 2 rfl 1 rfl q261 rfl dX6_mark_41 ?_
        refine lv_if_ne (tgt := 67) hx hb dX6_mark_44 (by decide) (fun c44 => ?_) (fun c44 => ?_)
        · have hs1 : so j = 1 := by rcases (hsh j (by omega)).1 with e | e | e; exact absurd e c21; exact absurd e c44; exact e
          refine lv_iload_n hx hb dX6_mark_67 rfl (lv_at hl 4 rfl) ?_
          refine lv_ldc hx hb hown (hts _ q552) dX6_mark_68 ?_
          refine lv_icmp_eq (tgt := 89) hx hb dX6_mark_70 (by decide) (fun c70 => ?_) (fun c70 => ?_)
          · refine lv_aload hx hb dX6_mark_89 (lv_at hl 0 rfl) ?_
            refine s_getN (v := .ref (pa j)) fb2 cf hw 2 rfl 0 rfl q259 rfl dX6_mark_91 ?_
            refine lv_iload_n hx hb dX6_mark_94 rfl (lv_at hl 3 rfl) ?_
            refine lv_iload_n hx hb dX6_mark_95 rfl (lv_at hl 4 rfl) ?_
            refine s_iast (j := pn) cf hw 3 rfl (rfl) (by omega) rfl dX6_mark_96 (fun H locs hw => ?_)
            have hw : WD g A s H locs [bO o 6 (cF (lad 0) t t3 t2 ch kp tp wt), bR g 2 (ch 8) 4 (fun k => some (sa k)), bO (sa j) 2 ([.ref (pa j), .int (so j), .int (nI m_)]), bI g (pa j) 24 (upd (pl j) pn v), cEx (shC g sa pa so sz pl) j 4] := hw
            refine lv_iconst (v := 1) hx hb dX6_mark_97 (by decide) ?_
            have hok : okMark so sz x p_ v := ⟨hS, by rw [hclj]; exact hnn, by rw [hclj, hm_]; exact c33, by rw [hclj]; exact fun z => c44 z.1, by rw [hclj]; exact fun z => z.2.1 c70⟩
            have hw : WD g A s H locs [bO o 6 (cF (lad 0) t t3 t2 ch kp tp wt), bR g 2 (ch 8) 4 (fun k => some (sa k)), bO (sa j) 2 ([.ref (pa j), .int (so j), .int (sz j)]), bI g (pa j) 24 (upd (pl j) pn v), cEx (shC g sa pa so sz pl) j 4] := by rw [hm_]; exact hw
            have hw : WD g A s H locs [bO o 6 (cF (lad 0) t t3 t2 ch kp tp wt), bR g 2 (ch 8) 4 (fun k => some (sa k)), shB g sa pa so sz (updP pl j (upd (pl j) pn v))] := WD.clsM (pre := [bO o 6 (cF (lad 0) t t3 t2 ch kp tp wt), bR g 2 (ch 8) 4 (fun k => some (sa k))]) (post := []) hw (sh_clp (j := j) (by omega))
            exact s_iret cf hr hlk () (by have q : D_markP so sz pl x p_ v = updP pl j (upd (pl j) pn v) := (if_pos hok).trans (by unfold markX; rw [hclj, hclp, if_neg c44]); rw [q]; exact hw) (by unfold R_mark; rw [if_pos hS, hclj, if_neg hnn, hm_, if_pos c33, if_neg (fun z => c44 z.1), if_neg (fun z => z.2.1 c70)]) (Nat.le_of_ble_eq_true rfl) (Nat.le_of_ble_eq_true rfl) dX6_mark_98 hQ
          · refine lv_iload_n hx hb dX6_mark_73 rfl (lv_at hl 4 rfl) ?_
            refine lv_ldcw hx hb hown (hts _ q845) dX6_mark_74 ?_
            refine lv_icmp_lt (tgt := 86) hx hb dX6_mark_77 (by decide) (fun c77 => ?_) (fun c77 => ?_)
            · refine lv_ldc hx hb hown (hts _ q356) dX6_mark_86 ?_
              have hw : WD g A s H locs [bO o 6 (cF (lad 0) t t3 t2 ch kp tp wt), bR g 2 (ch 8) 4 (fun k => some (sa k)), bO (sa j) 2 ([.ref (pa j), .int (so j), .int (sz j)]), bI g (pa j) 24 (pl j), cEx (shC g sa pa so sz pl) j 4] := by rw [hm_]; exact hw
              have hw : WD g A s H locs [bO o 6 (cF (lad 0) t t3 t2 ch kp tp wt), bR g 2 (ch 8) 4 (fun k => some (sa k)), shB g sa pa so sz pl] := WD.clsM (pre := [bO o 6 (cF (lad 0) t t3 t2 ch kp tp wt), bR g 2 (ch 8) 4 (fun k => some (sa k))]) (post := []) hw (sh_opn (j := j) (by omega))
              have hb9 : ¬ (-99999 ≤ v ∧ v ≤ 99999) := fun z => absurd z.1 (Int32.not_le.mpr c77)
              exact s_iret cf hr hlk () (by have q : D_markP so sz pl x p_ v = pl := if_neg (fun z => z.2.2.2.2 ⟨by rw [hclj]; exact hs1, c70, hb9⟩); rw [q]; exact hw) (by unfold R_mark; rw [if_pos hS, hclj, if_neg hnn, hm_, if_pos c33, if_neg (fun z => c44 z.1), if_pos ⟨hs1, c70, hb9⟩]) (Nat.le_of_ble_eq_true rfl) (Nat.le_of_ble_eq_true rfl) dX6_mark_88 hQ
            · refine lv_iload_n hx hb dX6_mark_80 rfl (lv_at hl 4 rfl) ?_
              refine lv_ldc hx hb hown (hts _ q591) dX6_mark_81 ?_
              refine lv_icmp_le (tgt := 89) hx hb dX6_mark_83 (by decide) (fun c83 => ?_) (fun c83 => ?_)
              · refine lv_aload hx hb dX6_mark_89 (lv_at hl 0 rfl) ?_
                refine s_getN (v := .ref (pa j)) fb2 cf hw 2 rfl 0 rfl q259 rfl dX6_mark_91 ?_
                refine lv_iload_n hx hb dX6_mark_94 rfl (lv_at hl 3 rfl) ?_
                refine lv_iload_n hx hb dX6_mark_95 rfl (lv_at hl 4 rfl) ?_
                refine s_iast (j := pn) cf hw 3 rfl (rfl) (by omega) rfl dX6_mark_96 (fun H locs hw => ?_)
                have hw : WD g A s H locs [bO o 6 (cF (lad 0) t t3 t2 ch kp tp wt), bR g 2 (ch 8) 4 (fun k => some (sa k)), bO (sa j) 2 ([.ref (pa j), .int (so j), .int (nI m_)]), bI g (pa j) 24 (upd (pl j) pn v), cEx (shC g sa pa so sz pl) j 4] := hw
                refine lv_iconst (v := 1) hx hb dX6_mark_97 (by decide) ?_
                have hok : okMark so sz x p_ v := ⟨hS, by rw [hclj]; exact hnn, by rw [hclj, hm_]; exact c33, by rw [hclj]; exact fun z => c44 z.1, by rw [hclj]; exact fun z => z.2.2 ⟨Int32.not_lt.mp c77, c83⟩⟩
                have hw : WD g A s H locs [bO o 6 (cF (lad 0) t t3 t2 ch kp tp wt), bR g 2 (ch 8) 4 (fun k => some (sa k)), bO (sa j) 2 ([.ref (pa j), .int (so j), .int (sz j)]), bI g (pa j) 24 (upd (pl j) pn v), cEx (shC g sa pa so sz pl) j 4] := by rw [hm_]; exact hw
                have hw : WD g A s H locs [bO o 6 (cF (lad 0) t t3 t2 ch kp tp wt), bR g 2 (ch 8) 4 (fun k => some (sa k)), shB g sa pa so sz (updP pl j (upd (pl j) pn v))] := WD.clsM (pre := [bO o 6 (cF (lad 0) t t3 t2 ch kp tp wt), bR g 2 (ch 8) 4 (fun k => some (sa k))]) (post := []) hw (sh_clp (j := j) (by omega))
                exact s_iret cf hr hlk () (by have q : D_markP so sz pl x p_ v = updP pl j (upd (pl j) pn v) := (if_pos hok).trans (by unfold markX; rw [hclj, hclp, if_neg c44]); rw [q]; exact hw) (by unfold R_mark; rw [if_pos hS, hclj, if_neg hnn, hm_, if_pos c33, if_neg (fun z => c44 z.1), if_neg (fun z => z.2.2 ⟨Int32.not_lt.mp c77, c83⟩)]) (Nat.le_of_ble_eq_true rfl) (Nat.le_of_ble_eq_true rfl) dX6_mark_98 hQ
              · refine lv_ldc hx hb hown (hts _ q356) dX6_mark_86 ?_
                have hw : WD g A s H locs [bO o 6 (cF (lad 0) t t3 t2 ch kp tp wt), bR g 2 (ch 8) 4 (fun k => some (sa k)), bO (sa j) 2 ([.ref (pa j), .int (so j), .int (sz j)]), bI g (pa j) 24 (pl j), cEx (shC g sa pa so sz pl) j 4] := by rw [hm_]; exact hw
                have hw : WD g A s H locs [bO o 6 (cF (lad 0) t t3 t2 ch kp tp wt), bR g 2 (ch 8) 4 (fun k => some (sa k)), shB g sa pa so sz pl] := WD.clsM (pre := [bO o 6 (cF (lad 0) t t3 t2 ch kp tp wt), bR g 2 (ch 8) 4 (fun k => some (sa k))]) (post := []) hw (sh_opn (j := j) (by omega))
                have hb9 : ¬ (-99999 ≤ v ∧ v ≤ 99999) := fun z => c83 z.2
                exact s_iret cf hr hlk () (by have q : D_markP so sz pl x p_ v = pl := if_neg (fun z => z.2.2.2.2 ⟨by rw [hclj]; exact hs1, c70, hb9⟩); rw [q]; exact hw) (by unfold R_mark; rw [if_pos hS, hclj, if_neg hnn, hm_, if_pos c33, if_neg (fun z => c44 z.1), if_pos ⟨hs1, c70, hb9⟩]) (Nat.le_of_ble_eq_true rfl) (Nat.le_of_ble_eq_true rfl) dX6_mark_88 hQ
        · refine lv_iload_n hx hb dX6_mark_47 rfl (lv_at hl 4 rfl) ?_
          refine lv_ldc hx hb hown (hts _ q552) dX6_mark_48 ?_
          refine lv_icmp_ne (tgt := 56) hx hb dX6_mark_50 (by decide) (fun c50 => ?_) (fun c50 => ?_)
          · refine lv_aload hx hb dX6_mark_56 (lv_at hl 0 rfl) ?_
            refine s_getN (v := .ref (pa j)) fb2 cf hw 2 rfl 0 rfl q259 rfl dX6_mark_58 ?_
            refine lv_iload_n hx hb dX6_mark_61 rfl (lv_at hl 3 rfl) ?_
            refine lv_iload_n hx hb dX6_mark_62 rfl (lv_at hl 4 rfl) ?_
            refine lv_i2s (v := (v : Int32).toInt16.toInt32) hx hb dX6_mark_63 rfl ?_
            refine s_iast (j := pn) cf hw 3 rfl (rfl) (by omega) rfl dX6_mark_64 (fun H locs hw => ?_)
            have hw : WD g A s H locs [bO o 6 (cF (lad 0) t t3 t2 ch kp tp wt), bR g 2 (ch 8) 4 (fun k => some (sa k)), bO (sa j) 2 ([.ref (pa j), .int (so j), .int (nI m_)]), bI g (pa j) 24 (upd (pl j) pn ((v : Int32).toInt16.toInt32)), cEx (shC g sa pa so sz pl) j 4] := hw
            refine lv_iconst (v := 1) hx hb dX6_mark_65 (by decide) ?_
            have hok : okMark so sz x p_ v := ⟨hS, by rw [hclj]; exact hnn, by rw [hclj, hm_]; exact c33, by rw [hclj]; exact fun z => c50 z.2, by rw [hclj]; exact fun z => absurd (c44.symm.trans z.1) (by decide)⟩
            have hw : WD g A s H locs [bO o 6 (cF (lad 0) t t3 t2 ch kp tp wt), bR g 2 (ch 8) 4 (fun k => some (sa k)), bO (sa j) 2 ([.ref (pa j), .int (so j), .int (sz j)]), bI g (pa j) 24 (upd (pl j) pn ((v : Int32).toInt16.toInt32)), cEx (shC g sa pa so sz pl) j 4] := by rw [hm_]; exact hw
            have hw : WD g A s H locs [bO o 6 (cF (lad 0) t t3 t2 ch kp tp wt), bR g 2 (ch 8) 4 (fun k => some (sa k)), shB g sa pa so sz (updP pl j (upd (pl j) pn ((v : Int32).toInt16.toInt32)))] := WD.clsM (pre := [bO o 6 (cF (lad 0) t t3 t2 ch kp tp wt), bR g 2 (ch 8) 4 (fun k => some (sa k))]) (post := []) hw (sh_clp (j := j) (by omega))
            exact s_iret cf hr hlk () (by have q : D_markP so sz pl x p_ v = updP pl j (upd (pl j) pn ((v : Int32).toInt16.toInt32)) := (if_pos hok).trans (by unfold markX; rw [hclj, hclp, if_pos c44]); rw [q]; exact hw) (by unfold R_mark; rw [if_pos hS, hclj, if_neg hnn, hm_, if_pos c33, if_neg (fun z => c50 z.2), if_neg (fun z => absurd (c44.symm.trans z.1) (by decide))]) (Nat.le_of_ble_eq_true rfl) (Nat.le_of_ble_eq_true rfl) dX6_mark_66 hQ
          · refine lv_ldc hx hb hown (hts _ q441) dX6_mark_53 ?_
            have hw : WD g A s H locs [bO o 6 (cF (lad 0) t t3 t2 ch kp tp wt), bR g 2 (ch 8) 4 (fun k => some (sa k)), bO (sa j) 2 ([.ref (pa j), .int (so j), .int (sz j)]), bI g (pa j) 24 (pl j), cEx (shC g sa pa so sz pl) j 4] := by rw [hm_]; exact hw
            have hw : WD g A s H locs [bO o 6 (cF (lad 0) t t3 t2 ch kp tp wt), bR g 2 (ch 8) 4 (fun k => some (sa k)), shB g sa pa so sz pl] := WD.clsM (pre := [bO o 6 (cF (lad 0) t t3 t2 ch kp tp wt), bR g 2 (ch 8) 4 (fun k => some (sa k))]) (post := []) hw (sh_opn (j := j) (by omega))
            exact s_iret cf hr hlk () (by have q : D_markP so sz pl x p_ v = pl := if_neg (fun z => z.2.2.2.1 ⟨by rw [hclj]; exact c44, c50⟩); rw [q]; exact hw) (by unfold R_mark; rw [if_pos hS, hclj, if_neg hnn, hm_, if_pos c33, if_pos ⟨c44, c50⟩]) (Nat.le_of_ble_eq_true rfl) (Nat.le_of_ble_eq_true rfl) dX6_mark_55 hQ
      · have c33 := b01_z c33
        refine lv_ldc hx hb hown (hts _ q844) dX6_mark_36 ?_
        have hw : WD g A s H locs [bO o 6 (cF (lad 0) t t3 t2 ch kp tp wt), bR g 2 (ch 8) 4 (fun k => some (sa k)), bO (sa j) 2 ([.ref (pa j), .int (so j), .int (sz j)]), bI g (pa j) 24 (pl j), cEx (shC g sa pa so sz pl) j 4] := by rw [hm_]; exact hw
        have hw : WD g A s H locs [bO o 6 (cF (lad 0) t t3 t2 ch kp tp wt), bR g 2 (ch 8) 4 (fun k => some (sa k)), shB g sa pa so sz pl] := WD.clsM (pre := [bO o 6 (cF (lad 0) t t3 t2 ch kp tp wt), bR g 2 (ch 8) 4 (fun k => some (sa k))]) (post := []) hw (sh_opn (j := j) (by omega))
        exact s_iret cf hr hlk () (by have q : D_markP so sz pl x p_ v = pl := if_neg (fun z => c33 (by rw [← hm_, ← hclj]; exact z.2.2.1)); rw [q]; exact hw) (by unfold R_mark; rw [if_pos hS, hclj, if_neg hnn, hm_, if_neg c33]) (Nat.le_of_ble_eq_true rfl) (Nat.le_of_ble_eq_true rfl) dX6_mark_38 hQ
    · refine lv_ldc hx hb hown (hts _ q600) dX6_mark_24 ?_
      have hw : WD g A s H locs [bO o 6 (cF (lad 0) t t3 t2 ch kp tp wt), bR g 2 (ch 8) 4 (fun k => some (sa k)), bO (sa j) 2 ([.ref (pa j), .int (so j), .int (sz j)]), bI g (pa j) 24 (pl j), cEx (shC g sa pa so sz pl) j 4] := by rw [hm_]; exact hw
      have hw : WD g A s H locs [bO o 6 (cF (lad 0) t t3 t2 ch kp tp wt), bR g 2 (ch 8) 4 (fun k => some (sa k)), shB g sa pa so sz pl] := WD.clsM (pre := [bO o 6 (cF (lad 0) t t3 t2 ch kp tp wt), bR g 2 (ch 8) 4 (fun k => some (sa k))]) (post := []) hw (sh_opn (j := j) (by omega))
      exact s_iret cf hr hlk () (by have q : D_markP so sz pl x p_ v = pl := if_neg (fun z => z.2.1 (by rw [hclj]; exact (so_neg hsh (by omega)).mp c21)); rw [q]; exact hw) (by unfold R_mark; rw [if_pos hS, hclj, if_pos ((so_neg hsh (by omega)).mp c21)]) (Nat.le_of_ble_eq_true rfl) (Nat.le_of_ble_eq_true rfl) dX6_mark_26 hQ
  · refine lv_topv (y := .null) (by rw [if_neg hS]; rfl) ?_
    refine lv_astoreN (lv' := [(4, .null), (0, .ref o), (1, .int x), (2, .int p_), (3, .int v)]) hx hb dX6_mark_5 hl (by decide) rfl (fun ls hl => ?_)
    refine lv_aloadN hx hb dX6_mark_7 (lv_at hl 0 rfl) ?_
    refine lv_ifnonnullN hx hb dX6_mark_9 ?_
    refine lv_ldc hx hb hown (hts _ q356) dX6_mark_12 ?_
    exact s_iret cf hr hlk () (by have q : D_markP so sz pl x p_ v = pl := if_neg (fun z => hS z.1); rw [q]; exact hw) (by unfold R_mark; rw [if_neg hS]) (Nat.le_of_ble_eq_true rfl) (Nat.le_of_ble_eq_true rfl) dX6_mark_14 hQ
set_option maxRecDepth 100000 in
set_option maxHeartbeats 4000000 in
theorem c_pour {l : Launch} {g : GG} {t : Nat} {lad ad : Nat → Nat} {d cn : DD} {n : Nat} (hn : d 0 = nI n) (hn10 : n ≤ 10) {o t2 t3 : Nat} {ch : Nat → Nat} {kp tp wt : Int32} {sa pa : Nat → Nat} {so sz nu isn : DD} {pl : Nat → DD} (hsh : ShOK so sz pl nu isn) (x : Int32) : Ct l g yX6_pour cX6_pour 6 (Option.some Jvm.ClassFile.FieldType.int) 2 0 0 [.ref o, .int x] [bO t 4 (tF (lad 0) ad (d 0) (d 9) (d 5) (d 6) (d 7) (d 1) (d 8)), bI g (ad 1) 10 (col d 0), bI g (ad 2) 10 (col d 1), bI g (ad 3) 10 (col d 2), bI g (ad 4) 10 (col d 3), bI g (ad 5) 10 (col d 4), bI g (ad 6) 3 (rulF d), bI g (ad 7) 3 cn, bO o 6 (cF (lad 0) t t3 t2 ch kp tp wt), bR g 2 (ch 8) 4 (fun k => some (sa k)), shB g sa pa so sz pl] (QI g (fun r (_ : Unit) => r = R_pour d so sz nu isn x) (fun _ => [bO t 4 (tF (lad 0) ad ((D_pour d so sz nu isn x) 0) ((D_pour d so sz nu isn x) 9) ((D_pour d so sz nu isn x) 5) ((D_pour d so sz nu isn x) 6) ((D_pour d so sz nu isn x) 7) ((D_pour d so sz nu isn x) 1) ((D_pour d so sz nu isn x) 8)), bI g (ad 1) 10 (col (D_pour d so sz nu isn x) 0), bI g (ad 2) 10 (col (D_pour d so sz nu isn x) 1), bI g (ad 3) 10 (col (D_pour d so sz nu isn x) 2), bI g (ad 4) 10 (col (D_pour d so sz nu isn x) 3), bI g (ad 5) 10 (col (D_pour d so sz nu isn x) 4), bI g (ad 6) 3 (rulF (D_pour d so sz nu isn x)), bI g (ad 7) 3 cn, bO o 6 (cF (lad 0) t t3 t2 ch kp tp wt), bR g 2 (ch 8) 4 (fun k => some (sa k)), shB g sa pa so sz pl])) := by
  refine Ct.of (by decide) rfl ?_
  intro p e s m args below meth c A H locs ls Qf cf hr hlk hnm hQ hw hl
  have hx := cf.1
  have hb := cf.2.1
  have hml := cf.2.2.1
  have hown := cf.2.2.2.1
  have hts := cf.2.2.2.2
  have hw : WD g A s H locs [bO t 4 (tF (lad 0) ad (d 0) (d 9) (d 5) (d 6) (d 7) (d 1) (d 8)), bI g (ad 1) 10 (col d 0), bI g (ad 2) 10 (col d 1), bI g (ad 3) 10 (col d 2), bI g (ad 4) 10 (col d 3), bI g (ad 5) 10 (col d 4), bI g (ad 6) 3 (rulF d), bI g (ad 7) 3 cn, bO o 6 (cF (lad 0) t t3 t2 ch kp tp wt), bR g 2 (ch 8) 4 (fun k => some (sa k)), shB g sa pa so sz pl] := hw
  have hl : lv_has ls 6 [(0, .ref o), (1, .int x)] := hl
  refine lv_aload_n hx hb dX6_pour_0 rfl (lv_at hl 0 rfl) ?_
  refine lv_iload_n hx hb dX6_pour_1 rfl (lv_at hl 1 rfl) ?_
  refine s_callq (runV cf (x_sheetAt (t := t) (lad := lad) (o := o) (t2 := t2) (t3 := t3) (ch := ch) (kp := kp) (tp := tp) (wt := wt) (sa := sa) x) hw [8, 9] (by decide) rfl km_X6_sheetAt ki_X6_sheetAt q596 (run_recv (ci := 6) (T := TX6) (N := 13) hw 8 rfl rfl) rfl rfl hl.1 rfl dX6_pour_2) hw [8, 9] (by decide) rfl (fun _ => rfl) (fun r_3 u_1 H locs hp_2 hw => ?_)
  have hw : WD g A s H locs [bO t 4 (tF (lad 0) ad (d 0) (d 9) (d 5) (d 6) (d 7) (d 1) (d 8)), bI g (ad 1) 10 (col d 0), bI g (ad 2) 10 (col d 1), bI g (ad 3) 10 (col d 2), bI g (ad 4) 10 (col d 3), bI g (ad 5) 10 (col d 4), bI g (ad 6) 3 (rulF d), bI g (ad 7) 3 cn, bO o 6 (cF (lad 0) t t3 t2 ch kp tp wt), bR g 2 (ch 8) 4 (fun k => some (sa k)), shB g sa pa so sz pl] := hw
  subst hp_2
  by_cases hS : 0 ≤ x ∧ x ≤ 3
  · obtain ⟨j, hj3, hjx⟩ := rng_nat (m := 3) (by omega) hS.1 hS.2
    have hclj : (x).toNatClampNeg = j := by rw [hjx]; exact nI_clamp (by omega)
    refine lv_topv (y := .ref (sa j)) (by rw [if_pos hS, hclj]; rfl) ?_
    obtain ⟨m_, hm_24, hm_⟩ := (hsh j (by omega)).2.1
    have hw : WD g A s H locs [bO t 4 (tF (lad 0) ad (d 0) (d 9) (d 5) (d 6) (d 7) (d 1) (d 8)), bI g (ad 1) 10 (col d 0), bI g (ad 2) 10 (col d 1), bI g (ad 3) 10 (col d 2), bI g (ad 4) 10 (col d 3), bI g (ad 5) 10 (col d 4), bI g (ad 6) 3 (rulF d), bI g (ad 7) 3 cn, bO o 6 (cF (lad 0) t t3 t2 ch kp tp wt), bR g 2 (ch 8) 4 (fun k => some (sa k)), bO (sa j) 2 ([.ref (pa j), .int (so j), .int (sz j)]), bI g (pa j) 24 (pl j), cEx (shC g sa pa so sz pl) j 4] := WD.opnM (pre := [bO t 4 (tF (lad 0) ad (d 0) (d 9) (d 5) (d 6) (d 7) (d 1) (d 8)), bI g (ad 1) 10 (col d 0), bI g (ad 2) 10 (col d 1), bI g (ad 3) 10 (col d 2), bI g (ad 4) 10 (col d 3), bI g (ad 5) 10 (col d 4), bI g (ad 6) 3 (rulF d), bI g (ad 7) 3 cn, bO o 6 (cF (lad 0) t t3 t2 ch kp tp wt), bR g 2 (ch 8) 4 (fun k => some (sa k))]) (post := []) hw (sh_opn (j := j) (by omega))
    have hw : WD g A s H locs [bO t 4 (tF (lad 0) ad (d 0) (d 9) (d 5) (d 6) (d 7) (d 1) (d 8)), bI g (ad 1) 10 (col d 0), bI g (ad 2) 10 (col d 1), bI g (ad 3) 10 (col d 2), bI g (ad 4) 10 (col d 3), bI g (ad 5) 10 (col d 4), bI g (ad 6) 3 (rulF d), bI g (ad 7) 3 cn, bO o 6 (cF (lad 0) t t3 t2 ch kp tp wt), bR g 2 (ch 8) 4 (fun k => some (sa k)), bO (sa j) 2 ([.ref (pa j), .int (so j), .int (nI m_)]), bI g (pa j) 24 (pl j), cEx (shC g sa pa so sz pl) j 4] := by rw [← hm_]; exact hw
    refine lv_astore_n (lv' := [(2, .ref (sa j)), (0, .ref o), (1, .int x)]) hx hb dX6_pour_5 rfl hl (by decide) rfl (fun ls hl => ?_)
    refine lv_aload_n hx hb dX6_pour_6 rfl (lv_at hl 0 rfl) ?_
    refine lv_ifnonnull (tgt := 13) hx hb dX6_pour_7 (by decide) ?_
    refine lv_aload_n hx hb dX6_pour_13 rfl (lv_at hl 0 rfl) ?_
    refine s_getN (v := .int (so j)) fb2 cf hw 10 rfl 1 rfl q261 rfl dX6_pour_14 ?_
    refine lv_iconst (v := (-1)) hx hb dX6_pour_17 (by decide) ?_
    refine lv_icmp_ne (tgt := 24) hx hb dX6_pour_18 (by decide) (fun c18 => ?_) (fun c18 => ?_)
    · have hnn : ¬ so j < 0 := fun z => c18 ((so_neg hsh (by omega)).mpr z)
      have hpn : pourN d sz j = min n m_ := by unfold pourN; rw [nH_of hn hn10, hm_, nI_clamp (by omega)]
      refine lv_iconst (v := 0) hx hb dX6_pour_24 (by decide) ?_
      refine lv_istore_n (lv' := [(3, .int 0), (2, .ref (sa j)), (0, .ref o), (1, .int x)]) hx hb dX6_pour_25 rfl hl (by decide) rfl (fun ls hl => ?_)
      refine lv_iconst (v := 0) hx hb dX6_pour_26 (by decide) ?_
      refine lv_istore (lv' := [(4, .int 0), (3, .int 0), (2, .ref (sa j)), (0, .ref o), (1, .int x)]) hx hb dX6_pour_27 hl (by decide) rfl (fun ls hl => ?_)
      have L29 : ∀ (fu : Nat) (i : Nat), (i ≤ n) → (i ≤ m_) → (min n m_ < i + fu) → ∀ (H : Heap) (locs : List Loc) (ls : Array Slot), WD g A s H locs [bO t 4 (tF (lad 0) ad (((pourF nu isn (24 * j) i d).1) 0) (((pourF nu isn (24 * j) i d).1) 9) (((pourF nu isn (24 * j) i d).1) 5) (((pourF nu isn (24 * j) i d).1) 6) (((pourF nu isn (24 * j) i d).1) 7) (((pourF nu isn (24 * j) i d).1) 1) (((pourF nu isn (24 * j) i d).1) 8)), bI g (ad 1) 10 (col ((pourF nu isn (24 * j) i d).1) 0), bI g (ad 2) 10 (col ((pourF nu isn (24 * j) i d).1) 1), bI g (ad 3) 10 (col ((pourF nu isn (24 * j) i d).1) 2), bI g (ad 4) 10 (col ((pourF nu isn (24 * j) i d).1) 3), bI g (ad 5) 10 (col ((pourF nu isn (24 * j) i d).1) 4), bI g (ad 6) 3 (rulF ((pourF nu isn (24 * j) i d).1)), bI g (ad 7) 3 cn, bO o 6 (cF (lad 0) t t3 t2 ch kp tp wt), bR g 2 (ch 8) 4 (fun k => some (sa k)), bO (sa j) 2 ([.ref (pa j), .int (so j), .int (nI m_)]), bI g (pa j) 24 (pl j), cEx (shC g sa pa so sz pl) j 4] → lv_has ls 6 [(0, .ref o), (1, .int x), (2, .ref (sa j)), (3, .int ((pourF nu isn (24 * j) i d).2)), (4, .int (nI i))] → W p l e (rmx 2 0 0) s m args below meth c H locs 0 0 Qf (F0 m 29 ls []) := by
        intro fu
        induction fu with
        | zero => intro i hin him hfu; exfalso; omega
        | succ fu ih29 =>
          intro i hin him hfu H locs ls hw hl
          have hE0 : (pourF nu isn (24 * j) i d).1 0 = nI n := (pourF_lo (by omega)).trans hn
          refine lv_iload hx hb dX6_pour_29 (lv_at hl 4 rfl) ?_
          refine lv_aload_n hx hb dX6_pour_31 rfl (lv_at hl 0 rfl) ?_
          refine s_get (v := .ref t) fb6 cf hw 8 rfl 1 rfl q307 rfl dX6_pour_32 ?_
          refine s_getN (v := .int (((pourF nu isn (24 * j) i d).1) 0)) fb4 cf hw 0 rfl 8 rfl q174 rfl dX6_pour_35 ?_
          refine lv_icmp_ge (tgt := 104) hx hb dX6_pour_38 (by decide) (fun c38 => ?_) (fun c38 => ?_)
          · have hi2 : min n m_ = i := by rw [hE0] at c38; have := nI_le_of (by omega) c38 (by omega); omega
            refine lv_iload_n hx hb dX6_pour_104 rfl (lv_at hl 3 rfl) ?_
            have hw : WD g A s H locs [bO t 4 (tF (lad 0) ad (((pourF nu isn (24 * j) i d).1) 0) (((pourF nu isn (24 * j) i d).1) 9) (((pourF nu isn (24 * j) i d).1) 5) (((pourF nu isn (24 * j) i d).1) 6) (((pourF nu isn (24 * j) i d).1) 7) (((pourF nu isn (24 * j) i d).1) 1) (((pourF nu isn (24 * j) i d).1) 8)), bI g (ad 1) 10 (col ((pourF nu isn (24 * j) i d).1) 0), bI g (ad 2) 10 (col ((pourF nu isn (24 * j) i d).1) 1), bI g (ad 3) 10 (col ((pourF nu isn (24 * j) i d).1) 2), bI g (ad 4) 10 (col ((pourF nu isn (24 * j) i d).1) 3), bI g (ad 5) 10 (col ((pourF nu isn (24 * j) i d).1) 4), bI g (ad 6) 3 (rulF ((pourF nu isn (24 * j) i d).1)), bI g (ad 7) 3 cn, bO o 6 (cF (lad 0) t t3 t2 ch kp tp wt), bR g 2 (ch 8) 4 (fun k => some (sa k)), bO (sa j) 2 ([.ref (pa j), .int (so j), .int (sz j)]), bI g (pa j) 24 (pl j), cEx (shC g sa pa so sz pl) j 4] := by rw [hm_]; exact hw
            have hw : WD g A s H locs [bO t 4 (tF (lad 0) ad (((pourF nu isn (24 * j) i d).1) 0) (((pourF nu isn (24 * j) i d).1) 9) (((pourF nu isn (24 * j) i d).1) 5) (((pourF nu isn (24 * j) i d).1) 6) (((pourF nu isn (24 * j) i d).1) 7) (((pourF nu isn (24 * j) i d).1) 1) (((pourF nu isn (24 * j) i d).1) 8)), bI g (ad 1) 10 (col ((pourF nu isn (24 * j) i d).1) 0), bI g (ad 2) 10 (col ((pourF nu isn (24 * j) i d).1) 1), bI g (ad 3) 10 (col ((pourF nu isn (24 * j) i d).1) 2), bI g (ad 4) 10 (col ((pourF nu isn (24 * j) i d).1) 3), bI g (ad 5) 10 (col ((pourF nu isn (24 * j) i d).1) 4), bI g (ad 6) 3 (rulF ((pourF nu isn (24 * j) i d).1)), bI g (ad 7) 3 cn, bO o 6 (cF (lad 0) t t3 t2 ch kp tp wt), bR g 2 (ch 8) 4 (fun k => some (sa k)), shB g sa pa so sz pl] := WD.clsM (pre := [bO t 4 (tF (lad 0) ad (((pourF nu isn (24 * j) i d).1) 0) (((pourF nu isn (24 * j) i d).1) 9) (((pourF nu isn (24 * j) i d).1) 5) (((pourF nu isn (24 * j) i d).1) 6) (((pourF nu isn (24 * j) i d).1) 7) (((pourF nu isn (24 * j) i d).1) 1) (((pourF nu isn (24 * j) i d).1) 8)), bI g (ad 1) 10 (col ((pourF nu isn (24 * j) i d).1) 0), bI g (ad 2) 10 (col ((pourF nu isn (24 * j) i d).1) 1), bI g (ad 3) 10 (col ((pourF nu isn (24 * j) i d).1) 2), bI g (ad 4) 10 (col ((pourF nu isn (24 * j) i d).1) 3), bI g (ad 5) 10 (col ((pourF nu isn (24 * j) i d).1) 4), bI g (ad 6) 3 (rulF ((pourF nu isn (24 * j) i d).1)), bI g (ad 7) 3 cn, bO o 6 (cF (lad 0) t t3 t2 ch kp tp wt), bR g 2 (ch 8) 4 (fun k => some (sa k))]) (post := []) hw (sh_opn (j := j) (by omega))
            exact s_iret cf hr hlk () (by have q : D_pour d so sz nu isn x = (pourF nu isn (24 * j) i d).1 := (if_pos hS).trans (by rw [hclj, if_neg hnn, hpn, hi2]); rw [q]; exact hw) (by unfold R_pour; rw [if_pos hS, hclj, if_neg hnn, hpn, hi2]) (Nat.le_of_ble_eq_true rfl) (Nat.le_of_ble_eq_true rfl) dX6_pour_105 hQ
          · have hlt1 : i < n := by rw [hE0] at c38; exact nI_lt_of (by omega) c38 (by omega)
            refine lv_iload hx hb dX6_pour_41 (lv_at hl 4 rfl) ?_
            refine lv_aload_n hx hb dX6_pour_43 rfl (lv_at hl 2 rfl) ?_
            refine s_getN (v := .int (nI m_)) fb2 cf hw 10 rfl 2 rfl q263 rfl dX6_pour_44 ?_
            refine lv_icmp_ge (tgt := 104) hx hb dX6_pour_47 (by decide) (fun c47 => ?_) (fun c47 => ?_)
            · have hi2 : min n m_ = i := by have := nI_le_of (by omega) c47 (by omega); omega
              refine lv_iload_n hx hb dX6_pour_104 rfl (lv_at hl 3 rfl) ?_
              have hw : WD g A s H locs [bO t 4 (tF (lad 0) ad (((pourF nu isn (24 * j) i d).1) 0) (((pourF nu isn (24 * j) i d).1) 9) (((pourF nu isn (24 * j) i d).1) 5) (((pourF nu isn (24 * j) i d).1) 6) (((pourF nu isn (24 * j) i d).1) 7) (((pourF nu isn (24 * j) i d).1) 1) (((pourF nu isn (24 * j) i d).1) 8)), bI g (ad 1) 10 (col ((pourF nu isn (24 * j) i d).1) 0), bI g (ad 2) 10 (col ((pourF nu isn (24 * j) i d).1) 1), bI g (ad 3) 10 (col ((pourF nu isn (24 * j) i d).1) 2), bI g (ad 4) 10 (col ((pourF nu isn (24 * j) i d).1) 3), bI g (ad 5) 10 (col ((pourF nu isn (24 * j) i d).1) 4), bI g (ad 6) 3 (rulF ((pourF nu isn (24 * j) i d).1)), bI g (ad 7) 3 cn, bO o 6 (cF (lad 0) t t3 t2 ch kp tp wt), bR g 2 (ch 8) 4 (fun k => some (sa k)), bO (sa j) 2 ([.ref (pa j), .int (so j), .int (sz j)]), bI g (pa j) 24 (pl j), cEx (shC g sa pa so sz pl) j 4] := by rw [hm_]; exact hw
              have hw : WD g A s H locs [bO t 4 (tF (lad 0) ad (((pourF nu isn (24 * j) i d).1) 0) (((pourF nu isn (24 * j) i d).1) 9) (((pourF nu isn (24 * j) i d).1) 5) (((pourF nu isn (24 * j) i d).1) 6) (((pourF nu isn (24 * j) i d).1) 7) (((pourF nu isn (24 * j) i d).1) 1) (((pourF nu isn (24 * j) i d).1) 8)), bI g (ad 1) 10 (col ((pourF nu isn (24 * j) i d).1) 0), bI g (ad 2) 10 (col ((pourF nu isn (24 * j) i d).1) 1), bI g (ad 3) 10 (col ((pourF nu isn (24 * j) i d).1) 2), bI g (ad 4) 10 (col ((pourF nu isn (24 * j) i d).1) 3), bI g (ad 5) 10 (col ((pourF nu isn (24 * j) i d).1) 4), bI g (ad 6) 3 (rulF ((pourF nu isn (24 * j) i d).1)), bI g (ad 7) 3 cn, bO o 6 (cF (lad 0) t t3 t2 ch kp tp wt), bR g 2 (ch 8) 4 (fun k => some (sa k)), shB g sa pa so sz pl] := WD.clsM (pre := [bO t 4 (tF (lad 0) ad (((pourF nu isn (24 * j) i d).1) 0) (((pourF nu isn (24 * j) i d).1) 9) (((pourF nu isn (24 * j) i d).1) 5) (((pourF nu isn (24 * j) i d).1) 6) (((pourF nu isn (24 * j) i d).1) 7) (((pourF nu isn (24 * j) i d).1) 1) (((pourF nu isn (24 * j) i d).1) 8)), bI g (ad 1) 10 (col ((pourF nu isn (24 * j) i d).1) 0), bI g (ad 2) 10 (col ((pourF nu isn (24 * j) i d).1) 1), bI g (ad 3) 10 (col ((pourF nu isn (24 * j) i d).1) 2), bI g (ad 4) 10 (col ((pourF nu isn (24 * j) i d).1) 3), bI g (ad 5) 10 (col ((pourF nu isn (24 * j) i d).1) 4), bI g (ad 6) 3 (rulF ((pourF nu isn (24 * j) i d).1)), bI g (ad 7) 3 cn, bO o 6 (cF (lad 0) t t3 t2 ch kp tp wt), bR g 2 (ch 8) 4 (fun k => some (sa k))]) (post := []) hw (sh_opn (j := j) (by omega))
              exact s_iret cf hr hlk () (by have q : D_pour d so sz nu isn x = (pourF nu isn (24 * j) i d).1 := (if_pos hS).trans (by rw [hclj, if_neg hnn, hpn, hi2]); rw [q]; exact hw) (by unfold R_pour; rw [if_pos hS, hclj, if_neg hnn, hpn, hi2]) (Nat.le_of_ble_eq_true rfl) (Nat.le_of_ble_eq_true rfl) dX6_pour_105 hQ
            · have hlt2 : i < m_ := nI_lt_of (by omega) c47 (by omega)
              refine lv_aload_n hx hb dX6_pour_50 rfl (lv_at hl 2 rfl) ?_
              refine lv_iload hx hb dX6_pour_51 (lv_at hl 4 rfl) ?_
              refine s_calli (runVN cf (x_isNum (sx := sa j) (px := pa j) (so_ := so j) (m_ := m_) hm_24 (f := pl j) (nI i)) hw [10, 11] (by decide) rfl km_X2_isNumber ki_X2_isNumber q608 (run_recv (ci := 2) (T := TX2) (N := 3) hw 10 rfl rfl) rfl rfl hl.1 rfl dX6_pour_53) hw [10, 11] (by decide) rfl (fun _ => rfl) (fun r_6 u_4 H locs hp_5 hw => ?_)
              have hw : WD g A s H locs [bO t 4 (tF (lad 0) ad (((pourF nu isn (24 * j) i d).1) 0) (((pourF nu isn (24 * j) i d).1) 9) (((pourF nu isn (24 * j) i d).1) 5) (((pourF nu isn (24 * j) i d).1) 6) (((pourF nu isn (24 * j) i d).1) 7) (((pourF nu isn (24 * j) i d).1) 1) (((pourF nu isn (24 * j) i d).1) 8)), bI g (ad 1) 10 (col ((pourF nu isn (24 * j) i d).1) 0), bI g (ad 2) 10 (col ((pourF nu isn (24 * j) i d).1) 1), bI g (ad 3) 10 (col ((pourF nu isn (24 * j) i d).1) 2), bI g (ad 4) 10 (col ((pourF nu isn (24 * j) i d).1) 3), bI g (ad 5) 10 (col ((pourF nu isn (24 * j) i d).1) 4), bI g (ad 6) 3 (rulF ((pourF nu isn (24 * j) i d).1)), bI g (ad 7) 3 cn, bO o 6 (cF (lad 0) t t3 t2 ch kp tp wt), bR g 2 (ch 8) 4 (fun k => some (sa k)), bO (sa j) 2 ([.ref (pa j), .int (so j), .int (nI m_)]), bI g (pa j) 24 (pl j), cEx (shC g sa pa so sz pl) j 4] := hw
              subst hp_5
              refine lv_if_eq (tgt := 98) hx hb dX6_pour_56 (by decide) (fun c56 => ?_) (fun c56 => ?_)
              · have c56 := b01_z c56
                have he : pourF nu isn (24 * j) (i + 1) d = pourF nu isn (24 * j) i d := pour_step0 (Decidable.byContradiction (fun z => c56 ((num_iff hsh (by omega) hnn hlt2 hm_24).mpr z)))
                have hw : WD g A s H locs [bO t 4 (tF (lad 0) ad (((pourF nu isn (24 * j) (i + 1) d).1) 0) (((pourF nu isn (24 * j) (i + 1) d).1) 9) (((pourF nu isn (24 * j) (i + 1) d).1) 5) (((pourF nu isn (24 * j) (i + 1) d).1) 6) (((pourF nu isn (24 * j) (i + 1) d).1) 7) (((pourF nu isn (24 * j) (i + 1) d).1) 1) (((pourF nu isn (24 * j) (i + 1) d).1) 8)), bI g (ad 1) 10 (col ((pourF nu isn (24 * j) (i + 1) d).1) 0), bI g (ad 2) 10 (col ((pourF nu isn (24 * j) (i + 1) d).1) 1), bI g (ad 3) 10 (col ((pourF nu isn (24 * j) (i + 1) d).1) 2), bI g (ad 4) 10 (col ((pourF nu isn (24 * j) (i + 1) d).1) 3), bI g (ad 5) 10 (col ((pourF nu isn (24 * j) (i + 1) d).1) 4), bI g (ad 6) 3 (rulF ((pourF nu isn (24 * j) (i + 1) d).1)), bI g (ad 7) 3 cn, bO o 6 (cF (lad 0) t t3 t2 ch kp tp wt), bR g 2 (ch 8) 4 (fun k => some (sa k)), bO (sa j) 2 ([.ref (pa j), .int (so j), .int (nI m_)]), bI g (pa j) 24 (pl j), cEx (shC g sa pa so sz pl) j 4] := by rw [he]; exact hw
                have hl : lv_has ls 6 [(0, .ref o), (1, .int x), (2, .ref (sa j)), (3, .int ((pourF nu isn (24 * j) (i + 1) d).2)), (4, .int (nI i))] := by rw [he]; exact hl
                refine lv_iinc (v := nI (i + 1)) (lv' := [(4, .int (nI (i + 1))), (0, .ref o), (1, .int x), (2, .ref (sa j)), (3, .int ((pourF nu isn (24 * j) (i + 1) d).2))]) hx hb dX6_pour_98 hl (k := 4) rfl (nI_1 i) (by decide) rfl (fun ls hl => ?_)
                refine lv_goto (tgt := 29) hx hb dX6_pour_101 (by decide) ?_
                exact ih29 (i + 1) (by omega) (by omega) (by omega) _ _ _ hw (lv_sub hl [1, 2, 3, 4, 0] rfl)
              · have c56 := b01_n c56
                have hnz : ¬ isn (24 * j + i) = 0 := (num_iff hsh (by omega) hnn hlt2 hm_24).mp c56
                refine lv_aload_n hx hb dX6_pour_59 rfl (lv_at hl 2 rfl) ?_
                refine s_getN (v := .ref (pa j)) fb2 cf hw 10 rfl 0 rfl q259 rfl dX6_pour_60 ?_
                refine lv_iload hx hb dX6_pour_63 (lv_at hl 4 rfl) ?_
                refine s_iald (j := i) cf hw 11 rfl (rfl) (by omega) rfl dX6_pour_65 ?_
                refine lv_topr (y := nu (24 * j + i)) (pl_num hsh (by omega) hnn (by omega) hnz) ?_
                refine s_calli (runS cf (x_held (nu (24 * j + i))) hw [] (by decide) rfl km_X6_heldWithin ks_X6_heldWithin q850 rfl rfl hl.1 rfl dX6_pour_66) hw [] (by decide) rfl (fun _ => rfl) (fun r_9 u_7 H locs hp_8 hw => ?_)
                have hw : WD g A s H locs [bO t 4 (tF (lad 0) ad (((pourF nu isn (24 * j) i d).1) 0) (((pourF nu isn (24 * j) i d).1) 9) (((pourF nu isn (24 * j) i d).1) 5) (((pourF nu isn (24 * j) i d).1) 6) (((pourF nu isn (24 * j) i d).1) 7) (((pourF nu isn (24 * j) i d).1) 1) (((pourF nu isn (24 * j) i d).1) 8)), bI g (ad 1) 10 (col ((pourF nu isn (24 * j) i d).1) 0), bI g (ad 2) 10 (col ((pourF nu isn (24 * j) i d).1) 1), bI g (ad 3) 10 (col ((pourF nu isn (24 * j) i d).1) 2), bI g (ad 4) 10 (col ((pourF nu isn (24 * j) i d).1) 3), bI g (ad 5) 10 (col ((pourF nu isn (24 * j) i d).1) 4), bI g (ad 6) 3 (rulF ((pourF nu isn (24 * j) i d).1)), bI g (ad 7) 3 cn, bO o 6 (cF (lad 0) t t3 t2 ch kp tp wt), bR g 2 (ch 8) 4 (fun k => some (sa k)), bO (sa j) 2 ([.ref (pa j), .int (so j), .int (nI m_)]), bI g (pa j) 24 (pl j), cEx (shC g sa pa so sz pl) j 4] := hw
                subst hp_8
                refine lv_istore (lv' := [(5, .int (held (nu (24 * j + i)) 0 99)), (0, .ref o), (1, .int x), (2, .ref (sa j)), (3, .int ((pourF nu isn (24 * j) i d).2)), (4, .int (nI i))]) hx hb dX6_pour_69 hl (by decide) rfl (fun ls hl => ?_)
                refine lv_iload_n hx hb dX6_pour_71 rfl (lv_at hl 4 rfl) ?_
                refine lv_aload_n hx hb dX6_pour_72 rfl (lv_at hl 1 rfl) ?_
                refine s_get (v := .ref t) fb6 cf hw 8 rfl 1 rfl q307 rfl dX6_pour_73 ?_
                refine s_getN (v := .ref (ad 3)) fb4 cf hw 0 rfl 3 rfl q162 rfl dX6_pour_76 ?_
                refine lv_iload hx hb dX6_pour_79 (lv_at hl 5 rfl) ?_
                refine lv_iload hx hb dX6_pour_81 (lv_at hl 0 rfl) ?_
                refine s_calli (runS cf (x_replaced (x := ad 3) (n := 10) (f := col ((pourF nu isn (24 * j) i d).1) 2) rfl i (by omega) (held (nu (24 * j + i)) 0 99)) hw [3] (by decide) rfl km_X6_replaced ks_X6_replaced q450 rfl rfl hl.1 rfl dX6_pour_83) hw [3] (by decide) rfl (fun _ => rfl) (fun r_12 u_10 H locs hp_11 hw => ?_)
                have hw : WD g A s H locs [bO t 4 (tF (lad 0) ad (((pourF nu isn (24 * j) i d).1) 0) (((pourF nu isn (24 * j) i d).1) 9) (((pourF nu isn (24 * j) i d).1) 5) (((pourF nu isn (24 * j) i d).1) 6) (((pourF nu isn (24 * j) i d).1) 7) (((pourF nu isn (24 * j) i d).1) 1) (((pourF nu isn (24 * j) i d).1) 8)), bI g (ad 1) 10 (col ((pourF nu isn (24 * j) i d).1) 0), bI g (ad 2) 10 (col ((pourF nu isn (24 * j) i d).1) 1), bI g (ad 3) 10 (upd (col ((pourF nu isn (24 * j) i d).1) 2) i (held (nu (24 * j + i)) 0 99)), bI g (ad 4) 10 (col ((pourF nu isn (24 * j) i d).1) 3), bI g (ad 5) 10 (col ((pourF nu isn (24 * j) i d).1) 4), bI g (ad 6) 3 (rulF ((pourF nu isn (24 * j) i d).1)), bI g (ad 7) 3 cn, bO o 6 (cF (lad 0) t t3 t2 ch kp tp wt), bR g 2 (ch 8) 4 (fun k => some (sa k)), bO (sa j) 2 ([.ref (pa j), .int (so j), .int (nI m_)]), bI g (pa j) 24 (pl j), cEx (shC g sa pa so sz pl) j 4] := hw
                subst hp_11
                refine lv_iload hx hb dX6_pour_86 (lv_at hl 0 rfl) ?_
                refine lv_icmp_ne (tgt := 95) hx hb dX6_pour_88 (by decide) (fun c88 => ?_) (fun c88 => ?_)
                · refine lv_iconst (v := 1) hx hb dX6_pour_95 (by decide) ?_
                  refine lv_iadd hx hb dX6_pour_96 ?_
                  refine lv_istore_n (lv' := [(3, .int (((pourF nu isn (24 * j) i d).2) + 1)), (5, .int (held (nu (24 * j + i)) 0 99)), (0, .ref o), (1, .int x), (2, .ref (sa j)), (4, .int (nI i))]) hx hb dX6_pour_97 rfl hl (by decide) rfl (fun ls hl => ?_)
                  have he := pour_step1 (nu := nu) (d := d) hnz
                  have hw : WD g A s H locs [bO t 4 (tF (lad 0) ad (((pourF nu isn (24 * j) (i + 1) d).1) 0) (((pourF nu isn (24 * j) (i + 1) d).1) 9) (((pourF nu isn (24 * j) (i + 1) d).1) 5) (((pourF nu isn (24 * j) (i + 1) d).1) 6) (((pourF nu isn (24 * j) (i + 1) d).1) 7) (((pourF nu isn (24 * j) (i + 1) d).1) 1) (((pourF nu isn (24 * j) (i + 1) d).1) 8)), bI g (ad 1) 10 (col ((pourF nu isn (24 * j) (i + 1) d).1) 0), bI g (ad 2) 10 (col ((pourF nu isn (24 * j) (i + 1) d).1) 1), bI g (ad 3) 10 (col ((pourF nu isn (24 * j) (i + 1) d).1) 2), bI g (ad 4) 10 (col ((pourF nu isn (24 * j) (i + 1) d).1) 3), bI g (ad 5) 10 (col ((pourF nu isn (24 * j) (i + 1) d).1) 4), bI g (ad 6) 3 (rulF ((pourF nu isn (24 * j) (i + 1) d).1)), bI g (ad 7) 3 cn, bO o 6 (cF (lad 0) t t3 t2 ch kp tp wt), bR g 2 (ch 8) 4 (fun k => some (sa k)), bO (sa j) 2 ([.ref (pa j), .int (so j), .int (nI m_)]), bI g (pa j) 24 (pl j), cEx (shC g sa pa so sz pl) j 4] := by rw [he.1]; exact tw_wd (rest := [bO o 6 (cF (lad 0) t t3 t2 ch kp tp wt), bR g 2 (ch 8) 4 (fun k => some (sa k)), bO (sa j) 2 ([.ref (pa j), .int (so j), .int (nI m_)]), bI g (pa j) 24 (pl j), cEx (shC g sa pa so sz pl) j 4]) (e := upd (pourF nu isn (24 * j) i d).1 (10 + 5 * i + 2) (held (nu (24 * j + i)) 0 99)) (tw_h i 2 _ (by omega) (tw_id _)) hw
                  have hl : lv_has ls 6 [(3, .int ((pourF nu isn (24 * j) (i + 1) d).2)), (5, .int (held (nu (24 * j + i)) 0 99)), (0, .ref o), (1, .int x), (2, .ref (sa j)), (4, .int (nI i))] := by rw [he.2, if_neg (fun z => c88 z.symm)]; exact hl
                  refine lv_iinc (v := nI (i + 1)) (lv' := [(4, .int (nI (i + 1))), (3, .int ((pourF nu isn (24 * j) (i + 1) d).2)), (5, .int (held (nu (24 * j + i)) 0 99)), (0, .ref o), (1, .int x), (2, .ref (sa j))]) hx hb dX6_pour_98 hl (k := 5) rfl (nI_1 i) (by decide) rfl (fun ls hl => ?_)
                  refine lv_goto (tgt := 29) hx hb dX6_pour_101 (by decide) ?_
                  exact ih29 (i + 1) (by omega) (by omega) (by omega) _ _ _ hw (lv_sub hl [3, 4, 5, 1, 0] rfl)
                · refine lv_iconst (v := 0) hx hb dX6_pour_91 (by decide) ?_
                  refine lv_goto (tgt := 96) hx hb dX6_pour_92 (by decide) ?_
                  refine lv_iadd hx hb dX6_pour_96 ?_
                  refine lv_istore_n (lv' := [(3, .int (((pourF nu isn (24 * j) i d).2) + 0)), (5, .int (held (nu (24 * j + i)) 0 99)), (0, .ref o), (1, .int x), (2, .ref (sa j)), (4, .int (nI i))]) hx hb dX6_pour_97 rfl hl (by decide) rfl (fun ls hl => ?_)
                  have he := pour_step1 (nu := nu) (d := d) hnz
                  have hw : WD g A s H locs [bO t 4 (tF (lad 0) ad (((pourF nu isn (24 * j) (i + 1) d).1) 0) (((pourF nu isn (24 * j) (i + 1) d).1) 9) (((pourF nu isn (24 * j) (i + 1) d).1) 5) (((pourF nu isn (24 * j) (i + 1) d).1) 6) (((pourF nu isn (24 * j) (i + 1) d).1) 7) (((pourF nu isn (24 * j) (i + 1) d).1) 1) (((pourF nu isn (24 * j) (i + 1) d).1) 8)), bI g (ad 1) 10 (col ((pourF nu isn (24 * j) (i + 1) d).1) 0), bI g (ad 2) 10 (col ((pourF nu isn (24 * j) (i + 1) d).1) 1), bI g (ad 3) 10 (col ((pourF nu isn (24 * j) (i + 1) d).1) 2), bI g (ad 4) 10 (col ((pourF nu isn (24 * j) (i + 1) d).1) 3), bI g (ad 5) 10 (col ((pourF nu isn (24 * j) (i + 1) d).1) 4), bI g (ad 6) 3 (rulF ((pourF nu isn (24 * j) (i + 1) d).1)), bI g (ad 7) 3 cn, bO o 6 (cF (lad 0) t t3 t2 ch kp tp wt), bR g 2 (ch 8) 4 (fun k => some (sa k)), bO (sa j) 2 ([.ref (pa j), .int (so j), .int (nI m_)]), bI g (pa j) 24 (pl j), cEx (shC g sa pa so sz pl) j 4] := by rw [he.1]; exact tw_wd (rest := [bO o 6 (cF (lad 0) t t3 t2 ch kp tp wt), bR g 2 (ch 8) 4 (fun k => some (sa k)), bO (sa j) 2 ([.ref (pa j), .int (so j), .int (nI m_)]), bI g (pa j) 24 (pl j), cEx (shC g sa pa so sz pl) j 4]) (e := upd (pourF nu isn (24 * j) i d).1 (10 + 5 * i + 2) (held (nu (24 * j + i)) 0 99)) (tw_h i 2 _ (by omega) (tw_id _)) hw
                  have hl : lv_has ls 6 [(3, .int ((pourF nu isn (24 * j) (i + 1) d).2)), (5, .int (held (nu (24 * j + i)) 0 99)), (0, .ref o), (1, .int x), (2, .ref (sa j)), (4, .int (nI i))] := by rw [he.2, if_pos (show _ = (pourF nu isn (24 * j) i d).1 (10 + 5 * i + 2) from c88.symm)]; exact hl
                  refine lv_iinc (v := nI (i + 1)) (lv' := [(4, .int (nI (i + 1))), (3, .int ((pourF nu isn (24 * j) (i + 1) d).2)), (5, .int (held (nu (24 * j + i)) 0 99)), (0, .ref o), (1, .int x), (2, .ref (sa j))]) hx hb dX6_pour_98 hl (k := 5) rfl (nI_1 i) (by decide) rfl (fun ls hl => ?_)
                  refine lv_goto (tgt := 29) hx hb dX6_pour_101 (by decide) ?_
                  exact ih29 (i + 1) (by omega) (by omega) (by omega) _ _ _ hw (lv_sub hl [3, 4, 5, 1, 0] rfl)
      exact L29 (min n m_ + 1) 0 (by omega) (by omega) (by omega) _ _ _ hw (lv_sub hl [3, 4, 2, 1, 0] rfl)
    · refine lv_ldc hx hb hown (hts _ q600) dX6_pour_21 ?_
      have hw : WD g A s H locs [bO t 4 (tF (lad 0) ad (d 0) (d 9) (d 5) (d 6) (d 7) (d 1) (d 8)), bI g (ad 1) 10 (col d 0), bI g (ad 2) 10 (col d 1), bI g (ad 3) 10 (col d 2), bI g (ad 4) 10 (col d 3), bI g (ad 5) 10 (col d 4), bI g (ad 6) 3 (rulF d), bI g (ad 7) 3 cn, bO o 6 (cF (lad 0) t t3 t2 ch kp tp wt), bR g 2 (ch 8) 4 (fun k => some (sa k)), bO (sa j) 2 ([.ref (pa j), .int (so j), .int (sz j)]), bI g (pa j) 24 (pl j), cEx (shC g sa pa so sz pl) j 4] := by rw [hm_]; exact hw
      have hw : WD g A s H locs [bO t 4 (tF (lad 0) ad (d 0) (d 9) (d 5) (d 6) (d 7) (d 1) (d 8)), bI g (ad 1) 10 (col d 0), bI g (ad 2) 10 (col d 1), bI g (ad 3) 10 (col d 2), bI g (ad 4) 10 (col d 3), bI g (ad 5) 10 (col d 4), bI g (ad 6) 3 (rulF d), bI g (ad 7) 3 cn, bO o 6 (cF (lad 0) t t3 t2 ch kp tp wt), bR g 2 (ch 8) 4 (fun k => some (sa k)), shB g sa pa so sz pl] := WD.clsM (pre := [bO t 4 (tF (lad 0) ad (d 0) (d 9) (d 5) (d 6) (d 7) (d 1) (d 8)), bI g (ad 1) 10 (col d 0), bI g (ad 2) 10 (col d 1), bI g (ad 3) 10 (col d 2), bI g (ad 4) 10 (col d 3), bI g (ad 5) 10 (col d 4), bI g (ad 6) 3 (rulF d), bI g (ad 7) 3 cn, bO o 6 (cF (lad 0) t t3 t2 ch kp tp wt), bR g 2 (ch 8) 4 (fun k => some (sa k))]) (post := []) hw (sh_opn (j := j) (by omega))
      have hlo := (so_neg hsh (by omega)).mp c18
      exact s_iret cf hr hlk () (by have q : D_pour d so sz nu isn x = d := (if_pos hS).trans (by rw [hclj, if_pos hlo]); rw [q]; exact hw) (by unfold R_pour; rw [if_pos hS, hclj, if_pos hlo]) (Nat.le_of_ble_eq_true rfl) (Nat.le_of_ble_eq_true rfl) dX6_pour_23 hQ
  · refine lv_topv (y := .null) (by rw [if_neg hS]; rfl) ?_
    refine lv_astore_nN (lv' := [(2, .null), (0, .ref o), (1, .int x)]) hx hb dX6_pour_5 rfl hl (by decide) rfl (fun ls hl => ?_)
    refine lv_aload_nN hx hb dX6_pour_6 rfl (lv_at hl 0 rfl) ?_
    refine lv_ifnonnullN hx hb dX6_pour_7 ?_
    refine lv_ldc hx hb hown (hts _ q356) dX6_pour_10 ?_
    exact s_iret cf hr hlk () (by have q : D_pour d so sz nu isn x = d := if_neg hS; rw [q]; exact hw) (by unfold R_pour; rw [if_neg hS]) (Nat.le_of_ble_eq_true rfl) (Nat.le_of_ble_eq_true rfl) dX6_pour_12 hQ
set_option maxRecDepth 100000 in
set_option maxHeartbeats 4000000 in
theorem c_reads {l : Launch} {g : GG} {t : Nat} {lad ad : Nat → Nat} {d cn : DD} {n : Nat} (hn : d 0 = nI n) (hn10 : n ≤ 10) {o t2 t3 : Nat} {ch : Nat → Nat} {kp tp wt : Int32} {sa pa : Nat → Nat} {so sz nu isn : DD} {pl : Nat → DD} (hsh : ShOK so sz pl nu isn) (x : Int32) : Ct l g yX6_reads cX6_reads 4 (Option.some Jvm.ClassFile.FieldType.int) 2 0 0 [.ref o, .int x] [bO t 4 (tF (lad 0) ad (d 0) (d 9) (d 5) (d 6) (d 7) (d 1) (d 8)), bI g (ad 1) 10 (col d 0), bI g (ad 2) 10 (col d 1), bI g (ad 3) 10 (col d 2), bI g (ad 4) 10 (col d 3), bI g (ad 5) 10 (col d 4), bI g (ad 6) 3 (rulF d), bI g (ad 7) 3 cn, bO o 6 (cF (lad 0) t t3 t2 ch kp tp wt), bR g 2 (ch 8) 4 (fun k => some (sa k)), shB g sa pa so sz pl] (QI g (fun r (_ : Unit) => r = R_reads d so sz nu isn x) (fun _ => [bO t 4 (tF (lad 0) ad (d 0) (d 9) (d 5) (d 6) (d 7) (d 1) (d 8)), bI g (ad 1) 10 (col d 0), bI g (ad 2) 10 (col d 1), bI g (ad 3) 10 (col d 2), bI g (ad 4) 10 (col d 3), bI g (ad 5) 10 (col d 4), bI g (ad 6) 3 (rulF d), bI g (ad 7) 3 cn, bO o 6 (cF (lad 0) t t3 t2 ch kp tp wt), bR g 2 (ch 8) 4 (fun k => some (sa k)), shB g sa pa so sz pl])) := by
  refine Ct.of (by decide) rfl ?_
  intro p e s m args below meth c A H locs ls Qf cf hr hlk hnm hQ hw hl
  have hx := cf.1
  have hb := cf.2.1
  have hml := cf.2.2.1
  have hown := cf.2.2.2.1
  have hts := cf.2.2.2.2
  have hw : WD g A s H locs [bO t 4 (tF (lad 0) ad (d 0) (d 9) (d 5) (d 6) (d 7) (d 1) (d 8)), bI g (ad 1) 10 (col d 0), bI g (ad 2) 10 (col d 1), bI g (ad 3) 10 (col d 2), bI g (ad 4) 10 (col d 3), bI g (ad 5) 10 (col d 4), bI g (ad 6) 3 (rulF d), bI g (ad 7) 3 cn, bO o 6 (cF (lad 0) t t3 t2 ch kp tp wt), bR g 2 (ch 8) 4 (fun k => some (sa k)), shB g sa pa so sz pl] := hw
  have hl : lv_has ls 4 [(0, .ref o), (1, .int x)] := hl
  refine lv_aload_n hx hb dX6_reads_0 rfl (lv_at hl 0 rfl) ?_
  refine lv_iload_n hx hb dX6_reads_1 rfl (lv_at hl 1 rfl) ?_
  refine s_callq (runV cf (x_sheetAt (t := t) (lad := lad) (o := o) (t2 := t2) (t3 := t3) (ch := ch) (kp := kp) (tp := tp) (wt := wt) (sa := sa) x) hw [8, 9] (by decide) rfl km_X6_sheetAt ki_X6_sheetAt q596 (run_recv (ci := 6) (T := TX6) (N := 13) hw 8 rfl rfl) rfl rfl hl.1 rfl dX6_reads_2) hw [8, 9] (by decide) rfl (fun _ => rfl) (fun r_3 u_1 H locs hp_2 hw => ?_)
  have hw : WD g A s H locs [bO t 4 (tF (lad 0) ad (d 0) (d 9) (d 5) (d 6) (d 7) (d 1) (d 8)), bI g (ad 1) 10 (col d 0), bI g (ad 2) 10 (col d 1), bI g (ad 3) 10 (col d 2), bI g (ad 4) 10 (col d 3), bI g (ad 5) 10 (col d 4), bI g (ad 6) 3 (rulF d), bI g (ad 7) 3 cn, bO o 6 (cF (lad 0) t t3 t2 ch kp tp wt), bR g 2 (ch 8) 4 (fun k => some (sa k)), shB g sa pa so sz pl] := hw
  subst hp_2
  by_cases hS : 0 ≤ x ∧ x ≤ 3
  · obtain ⟨j, hj3, hjx⟩ := rng_nat (m := 3) (by omega) hS.1 hS.2
    have hclj : (x).toNatClampNeg = j := by rw [hjx]; exact nI_clamp (by omega)
    refine lv_topv (y := .ref (sa j)) (by rw [if_pos hS, hclj]; rfl) ?_
    obtain ⟨m_, hm_24, hm_⟩ := (hsh j (by omega)).2.1
    have hw : WD g A s H locs [bO t 4 (tF (lad 0) ad (d 0) (d 9) (d 5) (d 6) (d 7) (d 1) (d 8)), bI g (ad 1) 10 (col d 0), bI g (ad 2) 10 (col d 1), bI g (ad 3) 10 (col d 2), bI g (ad 4) 10 (col d 3), bI g (ad 5) 10 (col d 4), bI g (ad 6) 3 (rulF d), bI g (ad 7) 3 cn, bO o 6 (cF (lad 0) t t3 t2 ch kp tp wt), bR g 2 (ch 8) 4 (fun k => some (sa k)), bO (sa j) 2 ([.ref (pa j), .int (so j), .int (sz j)]), bI g (pa j) 24 (pl j), cEx (shC g sa pa so sz pl) j 4] := WD.opnM (pre := [bO t 4 (tF (lad 0) ad (d 0) (d 9) (d 5) (d 6) (d 7) (d 1) (d 8)), bI g (ad 1) 10 (col d 0), bI g (ad 2) 10 (col d 1), bI g (ad 3) 10 (col d 2), bI g (ad 4) 10 (col d 3), bI g (ad 5) 10 (col d 4), bI g (ad 6) 3 (rulF d), bI g (ad 7) 3 cn, bO o 6 (cF (lad 0) t t3 t2 ch kp tp wt), bR g 2 (ch 8) 4 (fun k => some (sa k))]) (post := []) hw (sh_opn (j := j) (by omega))
    have hw : WD g A s H locs [bO t 4 (tF (lad 0) ad (d 0) (d 9) (d 5) (d 6) (d 7) (d 1) (d 8)), bI g (ad 1) 10 (col d 0), bI g (ad 2) 10 (col d 1), bI g (ad 3) 10 (col d 2), bI g (ad 4) 10 (col d 3), bI g (ad 5) 10 (col d 4), bI g (ad 6) 3 (rulF d), bI g (ad 7) 3 cn, bO o 6 (cF (lad 0) t t3 t2 ch kp tp wt), bR g 2 (ch 8) 4 (fun k => some (sa k)), bO (sa j) 2 ([.ref (pa j), .int (so j), .int (nI m_)]), bI g (pa j) 24 (pl j), cEx (shC g sa pa so sz pl) j 4] := by rw [← hm_]; exact hw
    refine lv_astore_n (lv' := [(2, .ref (sa j)), (0, .ref o), (1, .int x)]) hx hb dX6_reads_5 rfl hl (by decide) rfl (fun ls hl => ?_)
    refine lv_aload_n hx hb dX6_reads_6 rfl (lv_at hl 0 rfl) ?_
    refine lv_ifnonnull (tgt := 13) hx hb dX6_reads_7 (by decide) ?_
    refine lv_aload_n hx hb dX6_reads_13 rfl (lv_at hl 0 rfl) ?_
    refine s_getN (v := .int (so j)) fb2 cf hw 10 rfl 1 rfl q261 rfl dX6_reads_14 ?_
    refine lv_iconst (v := (-1)) hx hb dX6_reads_17 (by decide) ?_
    refine lv_icmp_ne (tgt := 24) hx hb dX6_reads_18 (by decide) (fun c18 => ?_) (fun c18 => ?_)
    · have hnn : ¬ so j < 0 := fun z => c18 ((so_neg hsh (by omega)).mpr z)
      refine lv_iconst (v := 0) hx hb dX6_reads_24 (by decide) ?_
      refine lv_istore_n (lv' := [(3, .int 0), (2, .ref (sa j)), (0, .ref o), (1, .int x)]) hx hb dX6_reads_25 rfl hl (by decide) rfl (fun ls hl => ?_)
      have L26 : ∀ (fu : Nat) (i : Nat), (i ≤ m_) → (m_ < i + fu) → (readK d nu isn (24 * j) m_ = lst (readP d nu isn (24 * j)) (m_ - i) i) → ∀ (H : Heap) (locs : List Loc) (ls : Array Slot), WD g A s H locs [bO t 4 (tF (lad 0) ad (d 0) (d 9) (d 5) (d 6) (d 7) (d 1) (d 8)), bI g (ad 1) 10 (col d 0), bI g (ad 2) 10 (col d 1), bI g (ad 3) 10 (col d 2), bI g (ad 4) 10 (col d 3), bI g (ad 5) 10 (col d 4), bI g (ad 6) 3 (rulF d), bI g (ad 7) 3 cn, bO o 6 (cF (lad 0) t t3 t2 ch kp tp wt), bR g 2 (ch 8) 4 (fun k => some (sa k)), bO (sa j) 2 ([.ref (pa j), .int (so j), .int (nI m_)]), bI g (pa j) 24 (pl j), cEx (shC g sa pa so sz pl) j 4] → lv_has ls 4 [(0, .ref o), (1, .int x), (2, .ref (sa j)), (3, .int (nI i))] → W p l e (rmx 2 0 0) s m args below meth c H locs 0 0 Qf (F0 m 26 ls []) := by
        intro fu
        induction fu with
        | zero => intro i hi hfu hls; exfalso; omega
        | succ fu ih26 =>
          intro i hi hfu hls H locs ls hw hl
          refine lv_iload_n hx hb dX6_reads_26 rfl (lv_at hl 3 rfl) ?_
          refine lv_aload_n hx hb dX6_reads_27 rfl (lv_at hl 2 rfl) ?_
          refine s_getN (v := .int (nI m_)) fb2 cf hw 10 rfl 2 rfl q263 rfl dX6_reads_28 ?_
          refine lv_icmp_ge (tgt := 79) hx hb dX6_reads_31 (by decide) (fun c31 => ?_) (fun c31 => ?_)
          · have hi2 : m_ = i := by have := nI_le_of (by omega) c31 (by omega); omega
            refine lv_ldc hx hb hown (hts _ q552) dX6_reads_79 ?_
            have hw : WD g A s H locs [bO t 4 (tF (lad 0) ad (d 0) (d 9) (d 5) (d 6) (d 7) (d 1) (d 8)), bI g (ad 1) 10 (col d 0), bI g (ad 2) 10 (col d 1), bI g (ad 3) 10 (col d 2), bI g (ad 4) 10 (col d 3), bI g (ad 5) 10 (col d 4), bI g (ad 6) 3 (rulF d), bI g (ad 7) 3 cn, bO o 6 (cF (lad 0) t t3 t2 ch kp tp wt), bR g 2 (ch 8) 4 (fun k => some (sa k)), bO (sa j) 2 ([.ref (pa j), .int (so j), .int (sz j)]), bI g (pa j) 24 (pl j), cEx (shC g sa pa so sz pl) j 4] := by rw [hm_]; exact hw
            have hw : WD g A s H locs [bO t 4 (tF (lad 0) ad (d 0) (d 9) (d 5) (d 6) (d 7) (d 1) (d 8)), bI g (ad 1) 10 (col d 0), bI g (ad 2) 10 (col d 1), bI g (ad 3) 10 (col d 2), bI g (ad 4) 10 (col d 3), bI g (ad 5) 10 (col d 4), bI g (ad 6) 3 (rulF d), bI g (ad 7) 3 cn, bO o 6 (cF (lad 0) t t3 t2 ch kp tp wt), bR g 2 (ch 8) 4 (fun k => some (sa k)), shB g sa pa so sz pl] := WD.clsM (pre := [bO t 4 (tF (lad 0) ad (d 0) (d 9) (d 5) (d 6) (d 7) (d 1) (d 8)), bI g (ad 1) 10 (col d 0), bI g (ad 2) 10 (col d 1), bI g (ad 3) 10 (col d 2), bI g (ad 4) 10 (col d 3), bI g (ad 5) 10 (col d 4), bI g (ad 6) 3 (rulF d), bI g (ad 7) 3 cn, bO o 6 (cF (lad 0) t t3 t2 ch kp tp wt), bR g 2 (ch 8) 4 (fun k => some (sa k))]) (post := []) hw (sh_opn (j := j) (by omega))
            exact s_iret cf hr hlk () hw (by unfold R_reads; rw [if_pos hS, hclj, if_neg hnn, hm_, nI_clamp (by omega), if_pos (hls.trans (by rw [lst_end (by omega)]; omega))]) (Nat.le_of_ble_eq_true rfl) (Nat.le_of_ble_eq_true rfl) dX6_reads_81 hQ
          · have hlt : i < m_ := nI_lt_of (by omega) c31 (by omega)
            refine lv_aload_n hx hb dX6_reads_34 rfl (lv_at hl 2 rfl) ?_
            refine lv_iload_n hx hb dX6_reads_35 rfl (lv_at hl 3 rfl) ?_
            refine s_calli (runVN cf (x_isNum (sx := sa j) (px := pa j) (so_ := so j) (m_ := m_) hm_24 (f := pl j) (nI i)) hw [10, 11] (by decide) rfl km_X2_isNumber ki_X2_isNumber q608 (run_recv (ci := 2) (T := TX2) (N := 3) hw 10 rfl rfl) rfl rfl hl.1 rfl dX6_reads_36) hw [10, 11] (by decide) rfl (fun _ => rfl) (fun r_6 u_4 H locs hp_5 hw => ?_)
            have hw : WD g A s H locs [bO t 4 (tF (lad 0) ad (d 0) (d 9) (d 5) (d 6) (d 7) (d 1) (d 8)), bI g (ad 1) 10 (col d 0), bI g (ad 2) 10 (col d 1), bI g (ad 3) 10 (col d 2), bI g (ad 4) 10 (col d 3), bI g (ad 5) 10 (col d 4), bI g (ad 6) 3 (rulF d), bI g (ad 7) 3 cn, bO o 6 (cF (lad 0) t t3 t2 ch kp tp wt), bR g 2 (ch 8) 4 (fun k => some (sa k)), bO (sa j) 2 ([.ref (pa j), .int (so j), .int (nI m_)]), bI g (pa j) 24 (pl j), cEx (shC g sa pa so sz pl) j 4] := hw
            subst hp_5
            refine lv_if_eq (tgt := 73) hx hb dX6_reads_39 (by decide) (fun c39 => ?_) (fun c39 => ?_)
            · have c39 := b01_z c39
              have hls2 : readK d nu isn (24 * j) m_ = lst (readP d nu isn (24 * j)) (m_ - (i + 1)) (i + 1) := hls.trans (lst_step hlt (fun z => c39 ((num_iff hsh (by omega) hnn hlt hm_24).mpr z.1)))
              refine lv_iinc (v := nI (i + 1)) (lv' := [(3, .int (nI (i + 1))), (0, .ref o), (1, .int x), (2, .ref (sa j))]) hx hb dX6_reads_73 hl (k := 3) rfl (nI_1 i) (by decide) rfl (fun ls hl => ?_)
              refine lv_goto (tgt := 26) hx hb dX6_reads_76 (by decide) ?_
              exact ih26 (i + 1) (by omega) (by omega) hls2 _ _ _ hw (lv_sub hl [1, 2, 3, 0] rfl)
            · have c39 := b01_n c39
              have hnz : ¬ isn (24 * j + i) = 0 := (num_iff hsh (by omega) hnn hlt hm_24).mp c39
              refine lv_aload_n hx hb dX6_reads_42 rfl (lv_at hl 0 rfl) ?_
              refine s_get (v := .ref t) fb6 cf hw 8 rfl 1 rfl q307 rfl dX6_reads_43 ?_
              refine lv_iload_n hx hb dX6_reads_46 rfl (lv_at hl 3 rfl) ?_
              refine s_calli (runVN cf (x_has (cn := cn) (t := t) (lad := lad) (ad := ad) (d := d) (n := n) hn hn10 (nI i)) hw [0] (by decide) rfl km_X4_has ki_X4_has q367 (run_recv (ci := 4) (T := TX4) (N := 15) hw 0 rfl rfl) rfl rfl hl.1 rfl dX6_reads_47) hw [0] (by decide) rfl (fun _ => rfl) (fun r_9 u_7 H locs hp_8 hw => ?_)
              have hw : WD g A s H locs [bO t 4 (tF (lad 0) ad (d 0) (d 9) (d 5) (d 6) (d 7) (d 1) (d 8)), bI g (ad 1) 10 (col d 0), bI g (ad 2) 10 (col d 1), bI g (ad 3) 10 (col d 2), bI g (ad 4) 10 (col d 3), bI g (ad 5) 10 (col d 4), bI g (ad 6) 3 (rulF d), bI g (ad 7) 3 cn, bO o 6 (cF (lad 0) t t3 t2 ch kp tp wt), bR g 2 (ch 8) 4 (fun k => some (sa k)), bO (sa j) 2 ([.ref (pa j), .int (so j), .int (nI m_)]), bI g (pa j) 24 (pl j), cEx (shC g sa pa so sz pl) j 4] := hw
              subst hp_8
              refine lv_if_eq (tgt := 71) hx hb dX6_reads_50 (by decide) (fun c50 => ?_) (fun c50 => ?_)
              · have c50 := b01_z c50
                refine lv_iload_n hx hb dX6_reads_71 rfl (lv_at hl 3 rfl) ?_
                have hw : WD g A s H locs [bO t 4 (tF (lad 0) ad (d 0) (d 9) (d 5) (d 6) (d 7) (d 1) (d 8)), bI g (ad 1) 10 (col d 0), bI g (ad 2) 10 (col d 1), bI g (ad 3) 10 (col d 2), bI g (ad 4) 10 (col d 3), bI g (ad 5) 10 (col d 4), bI g (ad 6) 3 (rulF d), bI g (ad 7) 3 cn, bO o 6 (cF (lad 0) t t3 t2 ch kp tp wt), bR g 2 (ch 8) 4 (fun k => some (sa k)), bO (sa j) 2 ([.ref (pa j), .int (so j), .int (sz j)]), bI g (pa j) 24 (pl j), cEx (shC g sa pa so sz pl) j 4] := by rw [hm_]; exact hw
                have hw : WD g A s H locs [bO t 4 (tF (lad 0) ad (d 0) (d 9) (d 5) (d 6) (d 7) (d 1) (d 8)), bI g (ad 1) 10 (col d 0), bI g (ad 2) 10 (col d 1), bI g (ad 3) 10 (col d 2), bI g (ad 4) 10 (col d 3), bI g (ad 5) 10 (col d 4), bI g (ad 6) 3 (rulF d), bI g (ad 7) 3 cn, bO o 6 (cF (lad 0) t t3 t2 ch kp tp wt), bR g 2 (ch 8) 4 (fun k => some (sa k)), shB g sa pa so sz pl] := WD.clsM (pre := [bO t 4 (tF (lad 0) ad (d 0) (d 9) (d 5) (d 6) (d 7) (d 1) (d 8)), bI g (ad 1) 10 (col d 0), bI g (ad 2) 10 (col d 1), bI g (ad 3) 10 (col d 2), bI g (ad 4) 10 (col d 3), bI g (ad 5) 10 (col d 4), bI g (ad 6) 3 (rulF d), bI g (ad 7) 3 cn, bO o 6 (cF (lad 0) t t3 t2 ch kp tp wt), bR g 2 (ch 8) 4 (fun k => some (sa k))]) (post := []) hw (sh_opn (j := j) (by omega))
                have hrp : readP d nu isn (24 * j) i := ⟨hnz, Or.inl c50⟩
                have hK : readK d nu isn (24 * j) m_ = i := hls.trans (lst_stop hlt hrp)
                exact s_iret cf hr hlk () hw (by unfold R_reads; rw [if_pos hS, hclj, if_neg hnn, hm_, nI_clamp (by omega), if_neg (by omega), hK]) (Nat.le_of_ble_eq_true rfl) (Nat.le_of_ble_eq_true rfl) dX6_reads_72 hQ
              · have c50 := b01_n c50
                have hin : i < n := by obtain ⟨q, hq, e, -⟩ := isH_nat hn hn10 c50; have := (nI_eq (by omega) (by omega)).mp e; omega
                refine lv_aload_n hx hb dX6_reads_53 rfl (lv_at hl 2 rfl) ?_
                refine s_getN (v := .ref (pa j)) fb2 cf hw 10 rfl 0 rfl q259 rfl dX6_reads_54 ?_
                refine lv_iload_n hx hb dX6_reads_57 rfl (lv_at hl 3 rfl) ?_
                refine s_iald (j := i) cf hw 11 rfl (rfl) (by omega) rfl dX6_reads_58 ?_
                refine lv_topr (y := nu (24 * j + i)) (pl_num hsh (by omega) hnn (by omega) hnz) ?_
                refine lv_aload_n hx hb dX6_reads_59 rfl (lv_at hl 0 rfl) ?_
                refine s_get (v := .ref t) fb6 cf hw 8 rfl 1 rfl q307 rfl dX6_reads_60 ?_
                refine s_getN (v := .ref (ad 2)) fb4 cf hw 0 rfl 2 rfl q160 rfl dX6_reads_63 ?_
                refine lv_iload_n hx hb dX6_reads_66 rfl (lv_at hl 3 rfl) ?_
                refine s_iald (j := i) cf hw 2 rfl (rfl) (by omega) rfl dX6_reads_67 ?_
                refine lv_topr (y := d (10 + 5 * i + 1)) (rfl) ?_
                refine lv_icmp_eq (tgt := 73) hx hb dX6_reads_68 (by decide) (fun c68 => ?_) (fun c68 => ?_)
                · have hls2 : readK d nu isn (24 * j) m_ = lst (readP d nu isn (24 * j)) (m_ - (i + 1)) (i + 1) := hls.trans (lst_step hlt (fun z => by rcases z.2 with z | z; exact z c50; exact z c68))
                  refine lv_iinc (v := nI (i + 1)) (lv' := [(3, .int (nI (i + 1))), (0, .ref o), (1, .int x), (2, .ref (sa j))]) hx hb dX6_reads_73 hl (k := 3) rfl (nI_1 i) (by decide) rfl (fun ls hl => ?_)
                  refine lv_goto (tgt := 26) hx hb dX6_reads_76 (by decide) ?_
                  exact ih26 (i + 1) (by omega) (by omega) hls2 _ _ _ hw (lv_sub hl [1, 2, 3, 0] rfl)
                · refine lv_iload_n hx hb dX6_reads_71 rfl (lv_at hl 3 rfl) ?_
                  have hw : WD g A s H locs [bO t 4 (tF (lad 0) ad (d 0) (d 9) (d 5) (d 6) (d 7) (d 1) (d 8)), bI g (ad 1) 10 (col d 0), bI g (ad 2) 10 (col d 1), bI g (ad 3) 10 (col d 2), bI g (ad 4) 10 (col d 3), bI g (ad 5) 10 (col d 4), bI g (ad 6) 3 (rulF d), bI g (ad 7) 3 cn, bO o 6 (cF (lad 0) t t3 t2 ch kp tp wt), bR g 2 (ch 8) 4 (fun k => some (sa k)), bO (sa j) 2 ([.ref (pa j), .int (so j), .int (sz j)]), bI g (pa j) 24 (pl j), cEx (shC g sa pa so sz pl) j 4] := by rw [hm_]; exact hw
                  have hw : WD g A s H locs [bO t 4 (tF (lad 0) ad (d 0) (d 9) (d 5) (d 6) (d 7) (d 1) (d 8)), bI g (ad 1) 10 (col d 0), bI g (ad 2) 10 (col d 1), bI g (ad 3) 10 (col d 2), bI g (ad 4) 10 (col d 3), bI g (ad 5) 10 (col d 4), bI g (ad 6) 3 (rulF d), bI g (ad 7) 3 cn, bO o 6 (cF (lad 0) t t3 t2 ch kp tp wt), bR g 2 (ch 8) 4 (fun k => some (sa k)), shB g sa pa so sz pl] := WD.clsM (pre := [bO t 4 (tF (lad 0) ad (d 0) (d 9) (d 5) (d 6) (d 7) (d 1) (d 8)), bI g (ad 1) 10 (col d 0), bI g (ad 2) 10 (col d 1), bI g (ad 3) 10 (col d 2), bI g (ad 4) 10 (col d 3), bI g (ad 5) 10 (col d 4), bI g (ad 6) 3 (rulF d), bI g (ad 7) 3 cn, bO o 6 (cF (lad 0) t t3 t2 ch kp tp wt), bR g 2 (ch 8) 4 (fun k => some (sa k))]) (post := []) hw (sh_opn (j := j) (by omega))
                  have hrp : readP d nu isn (24 * j) i := ⟨hnz, Or.inr (fun z => c68 z)⟩
                  have hK : readK d nu isn (24 * j) m_ = i := hls.trans (lst_stop hlt hrp)
                  exact s_iret cf hr hlk () hw (by unfold R_reads; rw [if_pos hS, hclj, if_neg hnn, hm_, nI_clamp (by omega), if_neg (by omega), hK]) (Nat.le_of_ble_eq_true rfl) (Nat.le_of_ble_eq_true rfl) dX6_reads_72 hQ
      exact L26 (m_ + 1) 0 (by omega) (by omega) rfl _ _ _ hw (lv_sub hl [2, 3, 1, 0] rfl)
    · refine lv_ldc hx hb hown (hts _ q600) dX6_reads_21 ?_
      have hw : WD g A s H locs [bO t 4 (tF (lad 0) ad (d 0) (d 9) (d 5) (d 6) (d 7) (d 1) (d 8)), bI g (ad 1) 10 (col d 0), bI g (ad 2) 10 (col d 1), bI g (ad 3) 10 (col d 2), bI g (ad 4) 10 (col d 3), bI g (ad 5) 10 (col d 4), bI g (ad 6) 3 (rulF d), bI g (ad 7) 3 cn, bO o 6 (cF (lad 0) t t3 t2 ch kp tp wt), bR g 2 (ch 8) 4 (fun k => some (sa k)), bO (sa j) 2 ([.ref (pa j), .int (so j), .int (sz j)]), bI g (pa j) 24 (pl j), cEx (shC g sa pa so sz pl) j 4] := by rw [hm_]; exact hw
      have hw : WD g A s H locs [bO t 4 (tF (lad 0) ad (d 0) (d 9) (d 5) (d 6) (d 7) (d 1) (d 8)), bI g (ad 1) 10 (col d 0), bI g (ad 2) 10 (col d 1), bI g (ad 3) 10 (col d 2), bI g (ad 4) 10 (col d 3), bI g (ad 5) 10 (col d 4), bI g (ad 6) 3 (rulF d), bI g (ad 7) 3 cn, bO o 6 (cF (lad 0) t t3 t2 ch kp tp wt), bR g 2 (ch 8) 4 (fun k => some (sa k)), shB g sa pa so sz pl] := WD.clsM (pre := [bO t 4 (tF (lad 0) ad (d 0) (d 9) (d 5) (d 6) (d 7) (d 1) (d 8)), bI g (ad 1) 10 (col d 0), bI g (ad 2) 10 (col d 1), bI g (ad 3) 10 (col d 2), bI g (ad 4) 10 (col d 3), bI g (ad 5) 10 (col d 4), bI g (ad 6) 3 (rulF d), bI g (ad 7) 3 cn, bO o 6 (cF (lad 0) t t3 t2 ch kp tp wt), bR g 2 (ch 8) 4 (fun k => some (sa k))]) (post := []) hw (sh_opn (j := j) (by omega))
      exact s_iret cf hr hlk () hw (by unfold R_reads; rw [if_pos hS, hclj, if_pos ((so_neg hsh (by omega)).mp c18)]) (Nat.le_of_ble_eq_true rfl) (Nat.le_of_ble_eq_true rfl) dX6_reads_23 hQ
  · refine lv_topv (y := .null) (by rw [if_neg hS]; rfl) ?_
    refine lv_astore_nN (lv' := [(2, .null), (0, .ref o), (1, .int x)]) hx hb dX6_reads_5 rfl hl (by decide) rfl (fun ls hl => ?_)
    refine lv_aload_nN hx hb dX6_reads_6 rfl (lv_at hl 0 rfl) ?_
    refine lv_ifnonnullN hx hb dX6_reads_7 ?_
    refine lv_ldc hx hb hown (hts _ q356) dX6_reads_10 ?_
    exact s_iret cf hr hlk () hw (by unfold R_reads; rw [if_neg hS]) (Nat.le_of_ble_eq_true rfl) (Nat.le_of_ble_eq_true rfl) dX6_reads_12 hQ
