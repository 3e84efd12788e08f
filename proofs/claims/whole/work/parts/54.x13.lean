set_option maxRecDepth 100000 in
set_option maxHeartbeats 4000000 in
theorem x_fill {l : Launch} {g : GG} {x n : Nat} {f : DD} (hN : Nat.ble n 1073741824 = true) (hn31 : n < 1073741824) (v : Int32) : Ct l g yJ7_fill_53178 cJ7_fill_53178 4 (Option.none : Option Jvm.ClassFile.FieldType) 0 0 0 [.ref x, .int v] [bI g x n f] (QV g (fun (_ : Unit) => True) (fun _ => [bI g x n (fun _ => v)])) := by
  refine Ct.of (by decide) rfl ?_
  intro p e s m args below meth c A H locs ls Qf cf hr hlk hnm hQ hw hl
  have hx := cf.1
  have hb := cf.2.1
  have hml := cf.2.2.1
  have hown := cf.2.2.2.1
  have hts := cf.2.2.2.2
  have hw : WD g A s H locs [bI g x n f] := hw
  have hl : lv_has ls 4 [(0, .ref x), (1, .int v)] := hl
  refine lv_iconst (v := 0) hx hb dJ7_fill_53178_0 (by decide) ?_
  refine lv_istore_n (lv' := [(2, .int 0), (0, .ref x), (1, .int v)]) hx hb dJ7_fill_53178_1 rfl hl (by decide) rfl (fun ls hl => ?_)
  refine lv_aload_n hx hb dJ7_fill_53178_2 rfl (lv_at hl 1 rfl) ?_
  refine s_alen (n32 := nI n) cf hw 0 rfl 0 rfl rfl dJ7_fill_53178_3 ?_
  refine lv_istore_n (lv' := [(3, .int (nI n)), (2, .int 0), (0, .ref x), (1, .int v)]) hx hb dJ7_fill_53178_4 rfl hl (by decide) rfl (fun ls hl => ?_)
  have L5 : ∀ (fu : Nat) (i : Nat), (i ≤ n) → (n < i + fu) → ∀ (H : Heap) (locs : List Loc) (ls : Array Slot), WD g A s H locs [bI g x n (fillF 0 v i f)] → lv_has ls 4 [(0, .ref x), (1, .int v), (2, .int (nI i)), (3, .int (nI n))] → W p l e (rmx 0 0 0) s m args below meth c H locs 0 0 Qf (F0 m 5 ls []) := by
    intro fu
    induction fu with
    | zero => intro i hi hfu; exfalso; omega
    | succ fu ih5 =>
      intro i hi hfu H locs ls hw hl
      refine lv_iload_n hx hb dJ7_fill_53178_5 rfl (lv_at hl 2 rfl) ?_
      refine lv_iload_n hx hb dJ7_fill_53178_6 rfl (lv_at hl 3 rfl) ?_
      refine lv_icmp_ge (tgt := 20) hx hb dJ7_fill_53178_7 (by decide) (fun c7 => ?_) (fun c7 => ?_)
      · have hi2 : i = n := by have := nI_le_of (by omega) c7 (by omega); omega
        exact s_vret cf hr hlk () (hw.cong 0 rfl (fun j hj => by rw [hi2, fillF_eq, if_pos (by omega)])) trivial (Nat.le_of_ble_eq_true rfl) (Nat.le_of_ble_eq_true rfl) dJ7_fill_53178_20 hQ
      · have hlt : i < n := nI_lt_of (by omega) c7 (by omega)
        refine lv_aload_n hx hb dJ7_fill_53178_10 rfl (lv_at hl 0 rfl) ?_
        refine lv_iload_n hx hb dJ7_fill_53178_11 rfl (lv_at hl 2 rfl) ?_
        refine lv_iload_n hx hb dJ7_fill_53178_12 rfl (lv_at hl 1 rfl) ?_
        refine s_iast (j := i) cf hw 0 rfl (rfl) (by omega) hN dJ7_fill_53178_13 (fun H locs hw => ?_)
        have hw : WD g A s H locs [bI g x n (upd (fillF 0 v i f) i v)] := hw
        have hw : WD g A s H locs [bI g x n (fillF 0 v (i + 1) f)] := by have q : fillF 0 v (i + 1) f = upd (fillF 0 v i f) i v := (by show upd (fillF 0 v i f) (0 + i) v = _; rw [Nat.zero_add]); rw [q]; exact hw
        refine lv_iinc (v := nI (i + 1)) (lv' := [(2, .int (nI (i + 1))), (0, .ref x), (1, .int v), (3, .int (nI n))]) hx hb dJ7_fill_53178_14 hl (k := 2) rfl (nI_1 i) (by decide) rfl (fun ls hl => ?_)
        refine lv_goto (tgt := 5) hx hb dJ7_fill_53178_17 (by decide) ?_
        exact ih5 (i + 1) (by omega) (by omega) _ _ _ hw (lv_sub hl [1, 2, 0, 3] rfl)
  exact L5 (n + 1) 0 (by omega) (by omega) _ _ _ hw (lv_sub hl [2, 3, 1, 0] rfl)
set_option maxRecDepth 100000 in
set_option maxHeartbeats 4000000 in
theorem x_sheetAt {l : Launch} {g : GG} {t : Nat} {lad : Nat → Nat} {o t2 t3 : Nat} {ch : Nat → Nat} {kp tp wt : Int32} {sa : Nat → Nat} (x : Int32) : Ct l g yX6_sheetAt cX6_sheetAt 2 (Option.some (Jvm.ClassFile.FieldType.object "CoalHoles$Sheet")) 0 0 0 [.ref o, .int x] [bO o 6 (cF (lad 0) t t3 t2 ch kp tp wt), bR g 2 (ch 8) 4 (fun k => some (sa k))] (QQ g (fun r (_ : Unit) => r = if 0 ≤ x ∧ x ≤ 3 then some (sa x.toNatClampNeg) else none) (fun _ => [bO o 6 (cF (lad 0) t t3 t2 ch kp tp wt), bR g 2 (ch 8) 4 (fun k => some (sa k))])) := by
  refine Ct.of (by decide) rfl ?_
  intro p e s m args below meth c A H locs ls Qf cf hr hlk hnm hQ hw hl
  have hx := cf.1
  have hb := cf.2.1
  have hml := cf.2.2.1
  have hown := cf.2.2.2.1
  have hts := cf.2.2.2.2
  have hw : WD g A s H locs [bO o 6 (cF (lad 0) t t3 t2 ch kp tp wt), bR g 2 (ch 8) 4 (fun k => some (sa k))] := hw
  have hl : lv_has ls 2 [(0, .ref o), (1, .int x)] := hl
  refine lv_iload_n hx hb dX6_sheetAt_0 rfl (lv_at hl 1 rfl) ?_
  refine lv_if_lt (tgt := 22) hx hb dX6_sheetAt_1 (by decide) (fun c1 => ?_) (fun c1 => ?_)
  · refine lv_null hx hb dX6_sheetAt_22 ?_
    exact s_aret (v := none) cf hr hlk () hw ((if_neg (fun z => absurd z.1 (Int32.not_le.mpr c1))).symm) (Nat.le_of_ble_eq_true rfl) (Nat.le_of_ble_eq_true rfl) dX6_sheetAt_23 hQ
  · refine lv_iload_n hx hb dX6_sheetAt_4 rfl (lv_at hl 1 rfl) ?_
    refine lv_aload_n hx hb dX6_sheetAt_5 rfl (lv_at hl 0 rfl) ?_
    refine s_get (v := .ref (ch 8)) fb6 cf hw 0 rfl 8 rfl q314 rfl dX6_sheetAt_6 ?_
    refine s_alen (n32 := 4) cf hw 2 rfl 1 rfl rfl dX6_sheetAt_9 ?_
    refine lv_icmp_ge (tgt := 22) hx hb dX6_sheetAt_10 (by decide) (fun c10 => ?_) (fun c10 => ?_)
    · refine lv_null hx hb dX6_sheetAt_22 ?_
      exact s_aret (v := none) cf hr hlk () hw ((if_neg (fun z => absurd z.2 (by have h0 := c10; grind))).symm) (Nat.le_of_ble_eq_true rfl) (Nat.le_of_ble_eq_true rfl) dX6_sheetAt_23 hQ
    · obtain ⟨j, hj, hjx⟩ := rng_nat (x := x) (m := 3) (by omega) (Int32.not_lt.mp c1) (show x ≤ 3 by have := Int32.not_le.mp c10; grind)
      subst hjx
      refine lv_aload_n hx hb dX6_sheetAt_13 rfl (lv_at hl 0 rfl) ?_
      refine s_get (v := .ref (ch 8)) fb6 cf hw 0 rfl 8 rfl q314 rfl dX6_sheetAt_14 ?_
      refine lv_iload_n hx hb dX6_sheetAt_17 rfl (lv_at hl 1 rfl) ?_
      refine s_aald (j := j) cf hw 2 rfl 1 rfl (rfl) (by omega) rfl dX6_sheetAt_18 ?_
      refine lv_goto (tgt := 23) hx hb dX6_sheetAt_19 (by decide) ?_
      exact s_aret (v := (some (sa j))) cf hr hlk () hw (by rw [if_pos (by constructor; exact nI_pos' (by omega); exact nI_le (b := 3) (by omega) (by omega)), nI_clamp (by omega)]) (Nat.le_of_ble_eq_true rfl) (Nat.le_of_ble_eq_true rfl) dX6_sheetAt_23 hQ
set_option maxRecDepth 100000 in
set_option maxHeartbeats 4000000 in
theorem x_slotAt {l : Launch} {g : GG} {t : Nat} {lad : Nat → Nat} {o t2 t3 : Nat} {ch : Nat → Nat} {kp tp wt : Int32} {la : Nat → Nat} (x : Int32) : Ct l g yX6_slotAt cX6_slotAt 2 (Option.some (Jvm.ClassFile.FieldType.object "CoalHoles$Slot")) 0 0 0 [.ref o, .int x] [bO o 6 (cF (lad 0) t t3 t2 ch kp tp wt), bR g 3 (ch 9) 5 (fun k => some (la k))] (QQ g (fun r (_ : Unit) => r = if 0 ≤ x ∧ x ≤ 4 then some (la x.toNatClampNeg) else none) (fun _ => [bO o 6 (cF (lad 0) t t3 t2 ch kp tp wt), bR g 3 (ch 9) 5 (fun k => some (la k))])) := by
  refine Ct.of (by decide) rfl ?_
  intro p e s m args below meth c A H locs ls Qf cf hr hlk hnm hQ hw hl
  have hx := cf.1
  have hb := cf.2.1
  have hml := cf.2.2.1
  have hown := cf.2.2.2.1
  have hts := cf.2.2.2.2
  have hw : WD g A s H locs [bO o 6 (cF (lad 0) t t3 t2 ch kp tp wt), bR g 3 (ch 9) 5 (fun k => some (la k))] := hw
  have hl : lv_has ls 2 [(0, .ref o), (1, .int x)] := hl
  refine lv_iload_n hx hb dX6_slotAt_0 rfl (lv_at hl 1 rfl) ?_
  refine lv_if_lt (tgt := 22) hx hb dX6_slotAt_1 (by decide) (fun c1 => ?_) (fun c1 => ?_)
  · refine lv_null hx hb dX6_slotAt_22 ?_
    exact s_aret (v := none) cf hr hlk () hw ((if_neg (fun z => absurd z.1 (Int32.not_le.mpr c1))).symm) (Nat.le_of_ble_eq_true rfl) (Nat.le_of_ble_eq_true rfl) dX6_slotAt_23 hQ
  · refine lv_iload_n hx hb dX6_slotAt_4 rfl (lv_at hl 1 rfl) ?_
    refine lv_aload_n hx hb dX6_slotAt_5 rfl (lv_at hl 0 rfl) ?_
    refine s_get (v := .ref (ch 9)) fb6 cf hw 0 rfl 9 rfl q315 rfl dX6_slotAt_6 ?_
    refine s_alen (n32 := 5) cf hw 3 rfl 1 rfl rfl dX6_slotAt_9 ?_
    refine lv_icmp_ge (tgt := 22) hx hb dX6_slotAt_10 (by decide) (fun c10 => ?_) (fun c10 => ?_)
    · refine lv_null hx hb dX6_slotAt_22 ?_
      exact s_aret (v := none) cf hr hlk () hw ((if_neg (fun z => absurd z.2 (by have h0 := c10; grind))).symm) (Nat.le_of_ble_eq_true rfl) (Nat.le_of_ble_eq_true rfl) dX6_slotAt_23 hQ
    · obtain ⟨j, hj, hjx⟩ := rng_nat (x := x) (m := 4) (by omega) (Int32.not_lt.mp c1) (show x ≤ 4 by have := Int32.not_le.mp c10; grind)
      subst hjx
      refine lv_aload_n hx hb dX6_slotAt_13 rfl (lv_at hl 0 rfl) ?_
      refine s_get (v := .ref (ch 9)) fb6 cf hw 0 rfl 9 rfl q315 rfl dX6_slotAt_14 ?_
      refine lv_iload_n hx hb dX6_slotAt_17 rfl (lv_at hl 1 rfl) ?_
      refine s_aald (j := j) cf hw 3 rfl 1 rfl (rfl) (by omega) rfl dX6_slotAt_18 ?_
      refine lv_goto (tgt := 23) hx hb dX6_slotAt_19 (by decide) ?_
      exact s_aret (v := (some (la j))) cf hr hlk () hw (by rw [if_pos (by constructor; exact nI_pos' (by omega); exact nI_le (b := 4) (by omega) (by omega)), nI_clamp (by omega)]) (Nat.le_of_ble_eq_true rfl) (Nat.le_of_ble_eq_true rfl) dX6_slotAt_23 hQ
set_option maxRecDepth 100000 in
set_option maxHeartbeats 4000000 in
theorem x_shHas {l : Launch} {g : GG} {sx px : Nat} {so_ : Int32} {m_ : Nat} (hm : m_ ≤ 24) (p_ : Int32) : Ct l g yX2_has cX2_has 2 (Option.some Jvm.ClassFile.FieldType.boolean) 0 0 0 [.ref sx, .int p_] [bO sx 2 ([.ref px, .int so_, .int (nI m_)])] (QI g (fun r (_ : Unit) => r = if 0 ≤ p_ ∧ p_ ≤ nI m_ - 1 then 1 else 0) (fun _ => [bO sx 2 ([.ref px, .int so_, .int (nI m_)])])) := by
  refine Ct.of (by decide) rfl ?_
  intro p e s m args below meth c A H locs ls Qf cf hr hlk hnm hQ hw hl
  have hx := cf.1
  have hb := cf.2.1
  have hml := cf.2.2.1
  have hown := cf.2.2.2.1
  have hts := cf.2.2.2.2
  have hw : WD g A s H locs [bO sx 2 ([.ref px, .int so_, .int (nI m_)])] := hw
  have hl : lv_has ls 2 [(0, .ref sx), (1, .int p_)] := hl
  have hb24 := le24 hm
  refine lv_iload_n hx hb dX2_has_0 rfl (lv_at hl 1 rfl) ?_
  refine lv_if_lt (tgt := 16) hx hb dX2_has_1 (by decide) (fun c1 => ?_) (fun c1 => ?_)
  · refine lv_iconst (v := 0) hx hb dX2_has_16 (by decide) ?_
    exact s_zret cf hr hlk () hw (by grind) rfl (Nat.le_of_ble_eq_true rfl) (Nat.le_of_ble_eq_true rfl) dX2_has_17 hQ
  · refine lv_iload_n hx hb dX2_has_4 rfl (lv_at hl 1 rfl) ?_
    refine lv_aload_n hx hb dX2_has_5 rfl (lv_at hl 0 rfl) ?_
    refine s_get (v := .int (nI m_)) fb2 cf hw 0 rfl 2 rfl q262 rfl dX2_has_6 ?_
    refine lv_icmp_ge (tgt := 16) hx hb dX2_has_9 (by decide) (fun c9 => ?_) (fun c9 => ?_)
    · refine lv_iconst (v := 0) hx hb dX2_has_16 (by decide) ?_
      exact s_zret cf hr hlk () hw (by grind) rfl (Nat.le_of_ble_eq_true rfl) (Nat.le_of_ble_eq_true rfl) dX2_has_17 hQ
    · refine lv_iconst (v := 1) hx hb dX2_has_12 (by decide) ?_
      refine lv_goto (tgt := 17) hx hb dX2_has_13 (by decide) ?_
      exact s_zret cf hr hlk () hw (by grind) rfl (Nat.le_of_ble_eq_true rfl) (Nat.le_of_ble_eq_true rfl) dX2_has_17 hQ
set_option maxRecDepth 100000 in
set_option maxHeartbeats 4000000 in
theorem x_isNum {l : Launch} {g : GG} {sx px : Nat} {so_ : Int32} {m_ : Nat} (hm : m_ ≤ 24) {f : DD} (p_ : Int32) : Ct l g yX2_isNumber cX2_isNumber 2 (Option.some Jvm.ClassFile.FieldType.boolean) 1 0 0 [.ref sx, .int p_] [bO sx 2 ([.ref px, .int so_, .int (nI m_)]), bI g px 24 f] (QI g (fun r (_ : Unit) => r = if (0 ≤ p_ ∧ p_ ≤ nI m_ - 1) ∧ ¬ f p_.toNatClampNeg = -1000000005 then 1 else 0) (fun _ => [bO sx 2 ([.ref px, .int so_, .int (nI m_)]), bI g px 24 f])) := by
  refine Ct.of (by decide) rfl ?_
  intro p e s m args below meth c A H locs ls Qf cf hr hlk hnm hQ hw hl
  have hx := cf.1
  have hb := cf.2.1
  have hml := cf.2.2.1
  have hown := cf.2.2.2.1
  have hts := cf.2.2.2.2
  have hw : WD g A s H locs [bO sx 2 ([.ref px, .int so_, .int (nI m_)]), bI g px 24 f] := hw
  have hl : lv_has ls 2 [(0, .ref sx), (1, .int p_)] := hl
  refine lv_aload_n hx hb dX2_isNumber_0 rfl (lv_at hl 0 rfl) ?_
  refine lv_iload_n hx hb dX2_isNumber_1 rfl (lv_at hl 1 rfl) ?_
  refine s_calli (runV cf (x_shHas (sx := sx) (px := px) (so_ := so_) (m_ := m_) hm p_) hw [0] (by decide) rfl km_X2_has ki_X2_has q612 (run_recv (ci := 2) (T := TX2) (N := 3) hw 0 rfl rfl) rfl rfl hl.1 rfl dX2_isNumber_2) hw [0] (by decide) rfl (fun _ => rfl) (fun r_3 u_1 H locs hp_2 hw => ?_)
  have hw : WD g A s H locs [bO sx 2 ([.ref px, .int so_, .int (nI m_)]), bI g px 24 f] := hw
  subst hp_2
  refine lv_if_eq (tgt := 23) hx hb dX2_isNumber_5 (by decide) (fun c5 => ?_) (fun c5 => ?_)
  · have c5 := b01_z c5
    refine lv_iconst (v := 0) hx hb dX2_isNumber_23 (by decide) ?_
    exact s_zret cf hr hlk () hw ((if_neg (fun z => c5 z.1)).symm) rfl (Nat.le_of_ble_eq_true rfl) (Nat.le_of_ble_eq_true rfl) dX2_isNumber_24 hQ
  · have c5 := b01_n c5
    obtain ⟨j, hj, hjx, hcl⟩ := below_nat (e := nI m_) rfl (by omega) c5
    subst hjx
    refine lv_aload_n hx hb dX2_isNumber_8 rfl (lv_at hl 0 rfl) ?_
    refine s_get (v := .ref px) fb2 cf hw 0 rfl 0 rfl q258 rfl dX2_isNumber_9 ?_
    refine lv_iload_n hx hb dX2_isNumber_12 rfl (lv_at hl 1 rfl) ?_
    refine s_iald (j := j) cf hw 1 rfl (rfl) (by omega) rfl dX2_isNumber_13 ?_
    refine lv_ldc hx hb hown (hts _ q616) dX2_isNumber_14 ?_
    refine lv_icmp_eq (tgt := 23) hx hb dX2_isNumber_16 (by decide) (fun c16 => ?_) (fun c16 => ?_)
    · refine lv_iconst (v := 0) hx hb dX2_isNumber_23 (by decide) ?_
      exact s_zret cf hr hlk () hw (by rw [hcl]; exact (if_neg (fun z => z.2 c16)).symm) rfl (Nat.le_of_ble_eq_true rfl) (Nat.le_of_ble_eq_true rfl) dX2_isNumber_24 hQ
    · refine lv_iconst (v := 1) hx hb dX2_isNumber_19 (by decide) ?_
      refine lv_goto (tgt := 24) hx hb dX2_isNumber_20 (by decide) ?_
      exact s_zret cf hr hlk () hw (by rw [hcl]; exact (if_pos ⟨c5, c16⟩).symm) rfl (Nat.le_of_ble_eq_true rfl) (Nat.le_of_ble_eq_true rfl) dX2_isNumber_24 hQ
set_option maxRecDepth 100000 in
set_option maxHeartbeats 4000000 in
theorem x_hasMany {l : Launch} {g : GG} {sx px : Nat} {so_ : Int32} {m_ : Nat} (hm : m_ ≤ 24) (p_ q_ : Int32) : Ct l g yX2_hasMany cX2_hasMany 3 (Option.some Jvm.ClassFile.FieldType.boolean) 0 0 0 [.ref sx, .int p_, .int q_] [bO sx 2 ([.ref px, .int so_, .int (nI m_)])] (QI g (fun r (_ : Unit) => r = if okIx p_ q_ (nI m_) then 1 else 0) (fun _ => [bO sx 2 ([.ref px, .int so_, .int (nI m_)])])) := by
  refine Ct.of (by decide) rfl ?_
  intro p e s m args below meth c A H locs ls Qf cf hr hlk hnm hQ hw hl
  have hx := cf.1
  have hb := cf.2.1
  have hml := cf.2.2.1
  have hown := cf.2.2.2.1
  have hts := cf.2.2.2.2
  have hw : WD g A s H locs [bO sx 2 ([.ref px, .int so_, .int (nI m_)])] := hw
  have hl : lv_has ls 3 [(0, .ref sx), (1, .int p_), (2, .int q_)] := hl
  refine lv_iload_n hx hb dX2_hasMany_0 rfl (lv_at hl 1 rfl) ?_
  refine lv_if_lt (tgt := 22) hx hb dX2_hasMany_1 (by decide) (fun c1 => ?_) (fun c1 => ?_)
  · refine lv_iconst (v := 0) hx hb dX2_hasMany_22 (by decide) ?_
    exact s_zret cf hr hlk () hw ((if_neg (fun z => z.1 c1)).symm) rfl (Nat.le_of_ble_eq_true rfl) (Nat.le_of_ble_eq_true rfl) dX2_hasMany_23 hQ
  · refine lv_iload_n hx hb dX2_hasMany_4 rfl (lv_at hl 2 rfl) ?_
    refine lv_if_lt (tgt := 22) hx hb dX2_hasMany_5 (by decide) (fun c5 => ?_) (fun c5 => ?_)
    · refine lv_iconst (v := 0) hx hb dX2_hasMany_22 (by decide) ?_
      exact s_zret cf hr hlk () hw ((if_neg (fun z => z.2.1 c5)).symm) rfl (Nat.le_of_ble_eq_true rfl) (Nat.le_of_ble_eq_true rfl) dX2_hasMany_23 hQ
    · refine lv_iload_n hx hb dX2_hasMany_8 rfl (lv_at hl 1 rfl) ?_
      refine lv_aload_n hx hb dX2_hasMany_9 rfl (lv_at hl 0 rfl) ?_
      refine s_get (v := .int (nI m_)) fb2 cf hw 0 rfl 2 rfl q262 rfl dX2_hasMany_10 ?_
      refine lv_iload_n hx hb dX2_hasMany_13 rfl (lv_at hl 2 rfl) ?_
      refine lv_isub hx hb dX2_hasMany_14 ?_
      refine lv_icmp_gt (tgt := 22) hx hb dX2_hasMany_15 (by decide) (fun c15 => ?_) (fun c15 => ?_)
      · refine lv_iconst (v := 0) hx hb dX2_hasMany_22 (by decide) ?_
        exact s_zret cf hr hlk () hw ((if_neg (fun z => absurd ((hasM hm c1 c5).mpr z.2.2) (Int32.not_le.mpr c15))).symm) rfl (Nat.le_of_ble_eq_true rfl) (Nat.le_of_ble_eq_true rfl) dX2_hasMany_23 hQ
      · refine lv_iconst (v := 1) hx hb dX2_hasMany_18 (by decide) ?_
        refine lv_goto (tgt := 23) hx hb dX2_hasMany_19 (by decide) ?_
        exact s_zret cf hr hlk () hw ((if_pos ⟨c1, c5, (hasM hm c1 c5).mp (Int32.not_lt.mp c15)⟩).symm) rfl (Nat.le_of_ble_eq_true rfl) (Nat.le_of_ble_eq_true rfl) dX2_hasMany_23 hQ
set_option maxRecDepth 100000 in
set_option maxHeartbeats 4000000 in
theorem x_clear {l : Launch} {g : GG} {sx px : Nat} {so_ ln_ : Int32} {f : DD} (a_ b_ : Int32) : Ct l g yX2_clear cX2_clear 3 (Option.none : Option Jvm.ClassFile.FieldType) 1 0 0 [.ref sx, .int a_, .int b_] [bO sx 2 ([.ref px, .int so_, .int ln_]), bI g px 24 f] (QV g (fun (_ : Unit) => True) (fun _ => [bO sx 2 ([.ref px, .int a_, .int b_]), bI g px 24 (fun _ => 0)])) := by
  refine Ct.of (by decide) rfl ?_
  intro p e s m args below meth c A H locs ls Qf cf hr hlk hnm hQ hw hl
  have hx := cf.1
  have hb := cf.2.1
  have hml := cf.2.2.1
  have hown := cf.2.2.2.1
  have hts := cf.2.2.2.2
  have hw : WD g A s H locs [bO sx 2 ([.ref px, .int so_, .int ln_]), bI g px 24 f] := hw
  have hl : lv_has ls 3 [(0, .ref sx), (1, .int a_), (2, .int b_)] := hl
  refine lv_aload_n hx hb dX2_clear_0 rfl (lv_at hl 0 rfl) ?_
  refine lv_iload_n hx hb dX2_clear_1 rfl (lv_at hl 1 rfl) ?_
  refine s_put (v := .int a_) fb2 cf hw 0 rfl 1 rfl q260 rfl rfl rfl rfl dX2_clear_2 (fun H locs hw => ?_)
  have hw : WD g A s H locs [bO sx 2 ([.ref px, .int a_, .int ln_]), bI g px 24 f] := hw
  refine lv_aload_n hx hb dX2_clear_5 rfl (lv_at hl 0 rfl) ?_
  refine lv_iload_n hx hb dX2_clear_6 rfl (lv_at hl 2 rfl) ?_
  refine s_put (v := .int b_) fb2 cf hw 0 rfl 2 rfl q262 rfl rfl rfl rfl dX2_clear_7 (fun H locs hw => ?_)
  have hw : WD g A s H locs [bO sx 2 ([.ref px, .int a_, .int b_]), bI g px 24 f] := hw
  refine lv_aload_n hx hb dX2_clear_10 rfl (lv_at hl 0 rfl) ?_
  refine s_get (v := .ref px) fb2 cf hw 0 rfl 0 rfl q258 rfl dX2_clear_11 ?_
  refine lv_iconst (v := 0) hx hb dX2_clear_14 (by decide) ?_
  refine s_callv (runS cf (x_fill (x := px) (n := 24) (f := f) rfl (by omega) 0) hw [1] (by decide) rfl km_J7_fill_53178 ks_J7_fill_53178 q838 rfl rfl hl.1 rfl dX2_clear_15) hw [1] (by decide) rfl (fun _ => rfl) (fun u_1 H locs hp_2 hw => ?_)
  have hw : WD g A s H locs [bO sx 2 ([.ref px, .int a_, .int b_]), bI g px 24 (fun _ => 0)] := hw
  exact s_vret cf hr hlk () hw trivial (Nat.le_of_ble_eq_true rfl) (Nat.le_of_ble_eq_true rfl) dX2_clear_18 hQ
set_option maxRecDepth 100000 in
set_option maxHeartbeats 4000000 in
theorem x_shBecome {l : Launch} {g : GG} {sx px : Nat} {so_ ln_ : Int32} {f : DD} {ry qy : Nat} {so2 ln2 : Int32} {f2 : DD} : Ct l g yX2_become cX2_become 2 (Option.none : Option Jvm.ClassFile.FieldType) 1 0 0 [.ref sx, .ref ry] [bO sx 2 ([.ref px, .int so_, .int ln_]), bI g px 24 f, bO ry 2 ([.ref qy, .int so2, .int ln2]), bI g qy 24 f2] (QV g (fun (_ : Unit) => True) (fun _ => [bO sx 2 ([.ref px, .int so2, .int ln2]), bI g px 24 f2, bO ry 2 ([.ref qy, .int so2, .int ln2]), bI g qy 24 f2])) := by
  refine Ct.of (by decide) rfl ?_
  intro p e s m args below meth c A H locs ls Qf cf hr hlk hnm hQ hw hl
  have hx := cf.1
  have hb := cf.2.1
  have hml := cf.2.2.1
  have hown := cf.2.2.2.1
  have hts := cf.2.2.2.2
  have hw : WD g A s H locs [bO sx 2 ([.ref px, .int so_, .int ln_]), bI g px 24 f, bO ry 2 ([.ref qy, .int so2, .int ln2]), bI g qy 24 f2] := hw
  have hl : lv_has ls 2 [(0, .ref sx), (1, .ref ry)] := hl
  refine lv_aload_n hx hb dX2_become_0 rfl (lv_at hl 0 rfl) ?_
  refine lv_aload_n hx hb dX2_become_1 rfl (lv_at hl 1 rfl) ?_
  refine s_get (v := .int so2) fb2 cf hw 2 rfl 1 rfl q260 rfl dX2_become_2 ?_
  refine s_put (v := .int so2) fb2 cf hw 0 rfl 1 rfl q260 rfl rfl rfl rfl dX2_become_5 (fun H locs hw => ?_)
  have hw : WD g A s H locs [bO sx 2 ([.ref px, .int so2, .int ln_]), bI g px 24 f, bO ry 2 ([.ref qy, .int so2, .int ln2]), bI g qy 24 f2] := hw
  refine lv_aload_n hx hb dX2_become_8 rfl (lv_at hl 0 rfl) ?_
  refine lv_aload_n hx hb dX2_become_9 rfl (lv_at hl 1 rfl) ?_
  refine s_get (v := .int ln2) fb2 cf hw 2 rfl 2 rfl q262 rfl dX2_become_10 ?_
  refine s_put (v := .int ln2) fb2 cf hw 0 rfl 2 rfl q262 rfl rfl rfl rfl dX2_become_13 (fun H locs hw => ?_)
  have hw : WD g A s H locs [bO sx 2 ([.ref px, .int so2, .int ln2]), bI g px 24 f, bO ry 2 ([.ref qy, .int so2, .int ln2]), bI g qy 24 f2] := hw
  refine lv_aload_n hx hb dX2_become_16 rfl (lv_at hl 1 rfl) ?_
  refine s_get (v := .ref qy) fb2 cf hw 2 rfl 0 rfl q258 rfl dX2_become_17 ?_
  refine lv_iconst (v := 0) hx hb dX2_become_20 (by decide) ?_
  refine lv_aload_n hx hb dX2_become_21 rfl (lv_at hl 0 rfl) ?_
  refine s_get (v := .ref px) fb2 cf hw 0 rfl 0 rfl q258 rfl dX2_become_22 ?_
  refine lv_iconst (v := 0) hx hb dX2_become_25 (by decide) ?_
  refine lv_bipush (v := 24) hx hb dX2_become_26 (by decide) ?_
  refine s_copya cf (by rw [hml]; exact hl.1.symm) hw q881 3 1 rfl rfl rfl rfl rfl rfl dX2_become_28 (fun H locs hw => ?_)
  have hw : WD g A s H locs [bO sx 2 ([.ref px, .int so2, .int ln2]), bI g px 24 f2, bO ry 2 ([.ref qy, .int so2, .int ln2]), bI g qy 24 f2] := hw
  exact s_vret cf hr hlk () hw trivial (Nat.le_of_ble_eq_true rfl) (Nat.le_of_ble_eq_true rfl) dX2_become_31 hQ
set_option maxRecDepth 100000 in
set_option maxHeartbeats 4000000 in
theorem x_takeHouse {l : Launch} {g : GG} {t : Nat} {lad ad : Nat → Nat} {d cn : DD} {n : Nat} (hn : d 0 = nI n) (hn10 : n ≤ 10) {lx rx : Nat} {h0 h1 h2 h3 h4 h5 : Int32} (j : Nat) (hjn : j < n) : Ct l g yX3_takeHouse cX3_takeHouse 3 (Option.none : Option Jvm.ClassFile.FieldType) 1 0 0 [.ref lx, .ref t, .int (nI j)] [bO lx 3 ([.int h0, .int h1, .int h2, .int h3, .int h4, .int h5, .ref rx]), bO t 4 (tF (lad 0) ad (d 0) (d 9) (d 5) (d 6) (d 7) (d 1) (d 8)), bI g (ad 1) 10 (col d 0), bI g (ad 2) 10 (col d 1), bI g (ad 4) 10 (col d 3), bI g (ad 5) 10 (col d 4)] (QV g (fun (_ : Unit) => True) (fun _ => [bO lx 3 ([.int h0, .int (d (10 + 5 * j + 0)), .int (d (10 + 5 * j + 1)), .int (d (10 + 5 * j + 3)), .int (d (10 + 5 * j + 4)), .int h5, .ref rx]), bO t 4 (tF (lad 0) ad (d 0) (d 9) (d 5) (d 6) (d 7) (d 1) (d 8)), bI g (ad 1) 10 (col d 0), bI g (ad 2) 10 (col d 1), bI g (ad 4) 10 (col d 3), bI g (ad 5) 10 (col d 4)])) := by
  refine Ct.of (by decide) rfl ?_
  intro p e s m args below meth c A H locs ls Qf cf hr hlk hnm hQ hw hl
  have hx := cf.1
  have hb := cf.2.1
  have hml := cf.2.2.1
  have hown := cf.2.2.2.1
  have hts := cf.2.2.2.2
  have hw : WD g A s H locs [bO lx 3 ([.int h0, .int h1, .int h2, .int h3, .int h4, .int h5, .ref rx]), bO t 4 (tF (lad 0) ad (d 0) (d 9) (d 5) (d 6) (d 7) (d 1) (d 8)), bI g (ad 1) 10 (col d 0), bI g (ad 2) 10 (col d 1), bI g (ad 4) 10 (col d 3), bI g (ad 5) 10 (col d 4)] := hw
  have hl : lv_has ls 3 [(0, .ref lx), (1, .ref t), (2, .int (nI j))] := hl
  refine lv_aload_n hx hb dX3_takeHouse_0 rfl (lv_at hl 1 rfl) ?_
  refine lv_iload_n hx hb dX3_takeHouse_1 rfl (lv_at hl 2 rfl) ?_
  refine s_calli (runVN cf (x_has (cn := cn) (t := t) (lad := lad) (ad := ad) (d := d) (n := n) hn hn10 (nI j)) hw [1] (by decide) rfl km_X4_has ki_X4_has q876 (run_recv (ci := 4) (T := TX4) (N := 15) hw 1 rfl rfl) rfl rfl hl.1 rfl dX3_takeHouse_2) hw [1] (by decide) rfl (fun _ => rfl) (fun r_3 u_1 H locs hp_2 hw => ?_)
  have hw : WD g A s H locs [bO lx 3 ([.int h0, .int h1, .int h2, .int h3, .int h4, .int h5, .ref rx]), bO t 4 (tF (lad 0) ad (d 0) (d 9) (d 5) (d 6) (d 7) (d 1) (d 8)), bI g (ad 1) 10 (col d 0), bI g (ad 2) 10 (col d 1), bI g (ad 4) 10 (col d 3), bI g (ad 5) 10 (col d 4)] := hw
  subst hp_2
  refine lv_if_eq (tgt := 48) hx hb dX3_takeHouse_5 (by decide) (fun c5 => ?_) (fun c5 => ?_)
  · have c5 := b01_z c5
    exact absurd (isH_of hn hn10 hjn) c5
  · have c5 := b01_n c5
    refine lv_aload_n hx hb dX3_takeHouse_8 rfl (lv_at hl 0 rfl) ?_
    refine lv_aload_n hx hb dX3_takeHouse_9 rfl (lv_at hl 1 rfl) ?_
    refine s_getN (v := .ref (ad 1)) fb4 cf hw 1 rfl 1 rfl q156 rfl dX3_takeHouse_10 ?_
    refine lv_iload_n hx hb dX3_takeHouse_13 rfl (lv_at hl 2 rfl) ?_
    refine s_iald (j := j) cf hw 2 rfl (rfl) (by omega) rfl dX3_takeHouse_14 ?_
    refine lv_topr (y := d (10 + 5 * j + 0)) (rfl) ?_
    refine s_put (v := .int (d (10 + 5 * j + 0))) fb3 cf hw 0 rfl 1 rfl q280 rfl rfl rfl rfl dX3_takeHouse_15 (fun H locs hw => ?_)
    have hw : WD g A s H locs [bO lx 3 ([.int h0, .int (d (10 + 5 * j + 0)), .int h2, .int h3, .int h4, .int h5, .ref rx]), bO t 4 (tF (lad 0) ad (d 0) (d 9) (d 5) (d 6) (d 7) (d 1) (d 8)), bI g (ad 1) 10 (col d 0), bI g (ad 2) 10 (col d 1), bI g (ad 4) 10 (col d 3), bI g (ad 5) 10 (col d 4)] := hw
    refine lv_aload_n hx hb dX3_takeHouse_18 rfl (lv_at hl 0 rfl) ?_
    refine lv_aload_n hx hb dX3_takeHouse_19 rfl (lv_at hl 1 rfl) ?_
    refine s_getN (v := .ref (ad 2)) fb4 cf hw 1 rfl 2 rfl q159 rfl dX3_takeHouse_20 ?_
    refine lv_iload_n hx hb dX3_takeHouse_23 rfl (lv_at hl 2 rfl) ?_
    refine s_iald (j := j) cf hw 3 rfl (rfl) (by omega) rfl dX3_takeHouse_24 ?_
    refine lv_topr (y := d (10 + 5 * j + 1)) (rfl) ?_
    refine s_put (v := .int (d (10 + 5 * j + 1))) fb3 cf hw 0 rfl 2 rfl q282 rfl rfl rfl rfl dX3_takeHouse_25 (fun H locs hw => ?_)
    have hw : WD g A s H locs [bO lx 3 ([.int h0, .int (d (10 + 5 * j + 0)), .int (d (10 + 5 * j + 1)), .int h3, .int h4, .int h5, .ref rx]), bO t 4 (tF (lad 0) ad (d 0) (d 9) (d 5) (d 6) (d 7) (d 1) (d 8)), bI g (ad 1) 10 (col d 0), bI g (ad 2) 10 (col d 1), bI g (ad 4) 10 (col d 3), bI g (ad 5) 10 (col d 4)] := hw
    refine lv_aload_n hx hb dX3_takeHouse_28 rfl (lv_at hl 0 rfl) ?_
    refine lv_aload_n hx hb dX3_takeHouse_29 rfl (lv_at hl 1 rfl) ?_
    refine s_getN (v := .ref (ad 4)) fb4 cf hw 1 rfl 4 rfl q164 rfl dX3_takeHouse_30 ?_
    refine lv_iload_n hx hb dX3_takeHouse_33 rfl (lv_at hl 2 rfl) ?_
    refine s_iald (j := j) cf hw 4 rfl (rfl) (by omega) rfl dX3_takeHouse_34 ?_
    refine lv_topr (y := d (10 + 5 * j + 3)) (rfl) ?_
    refine s_put (v := .int (d (10 + 5 * j + 3))) fb3 cf hw 0 rfl 3 rfl q284 rfl rfl rfl rfl dX3_takeHouse_35 (fun H locs hw => ?_)
    have hw : WD g A s H locs [bO lx 3 ([.int h0, .int (d (10 + 5 * j + 0)), .int (d (10 + 5 * j + 1)), .int (d (10 + 5 * j + 3)), .int h4, .int h5, .ref rx]), bO t 4 (tF (lad 0) ad (d 0) (d 9) (d 5) (d 6) (d 7) (d 1) (d 8)), bI g (ad 1) 10 (col d 0), bI g (ad 2) 10 (col d 1), bI g (ad 4) 10 (col d 3), bI g (ad 5) 10 (col d 4)] := hw
    refine lv_aload_n hx hb dX3_takeHouse_38 rfl (lv_at hl 0 rfl) ?_
    refine lv_aload_n hx hb dX3_takeHouse_39 rfl (lv_at hl 1 rfl) ?_
    refine s_getN (v := .ref (ad 5)) fb4 cf hw 1 rfl 5 rfl q167 rfl dX3_takeHouse_40 ?_
    refine lv_iload_n hx hb dX3_takeHouse_43 rfl (lv_at hl 2 rfl) ?_
    refine s_iald (j := j) cf hw 5 rfl (rfl) (by omega) rfl dX3_takeHouse_44 ?_
    refine lv_topr (y := d (10 + 5 * j + 4)) (rfl) ?_
    refine s_put (v := .int (d (10 + 5 * j + 4))) fb3 cf hw 0 rfl 4 rfl q286 rfl rfl rfl rfl dX3_takeHouse_45 (fun H locs hw => ?_)
    have hw : WD g A s H locs [bO lx 3 ([.int h0, .int (d (10 + 5 * j + 0)), .int (d (10 + 5 * j + 1)), .int (d (10 + 5 * j + 3)), .int (d (10 + 5 * j + 4)), .int h5, .ref rx]), bO t 4 (tF (lad 0) ad (d 0) (d 9) (d 5) (d 6) (d 7) (d 1) (d 8)), bI g (ad 1) 10 (col d 0), bI g (ad 2) 10 (col d 1), bI g (ad 4) 10 (col d 3), bI g (ad 5) 10 (col d 4)] := hw
    exact s_vret cf hr hlk () hw trivial (Nat.le_of_ble_eq_true rfl) (Nat.le_of_ble_eq_true rfl) dX3_takeHouse_48 hQ
