set_option maxRecDepth 100000 in
set_option maxHeartbeats 4000000 in
theorem x_takeValue {l : Launch} {g : GG} {ra : Nat} {rd : Nat → Nat} {ky : Int32} (q : MS) (cz sz : DD) (hcz : CR cz q.2.1) (hsz : PR sz q.2.2.1) (hok : okM q 95) (v : Int32) : Ct l g yX1_takeValue cX1_takeValue 2 (Option.some Jvm.ClassFile.FieldType.int) 2 0 0 [.ref ra, .int v] [bO ra 1 (rF rd (nI q.2.1.length) (nI q.2.2.1.length) (nI q.2.2.2.1) (nI q.2.2.2.2.1) (nI q.2.2.2.2.2) ky), bI g (rd 1) 96 cz, bI g (rd 2) 96 sz] (QI g (fun r (u : DD) => r = 1 ∧ CR u (valM v q).2.1 ∧ PR sz (valM v q).2.2.1) (fun u => [bO ra 1 (rF rd (nI (valM v q).2.1.length) (nI (valM v q).2.2.1.length) (nI (valM v q).2.2.2.1) (nI (valM v q).2.2.2.2.1) (nI (valM v q).2.2.2.2.2) ky), bI g (rd 1) 96 u, bI g (rd 2) 96 sz])) := by
  refine Ct.of (by decide) rfl ?_
  intro p e s m args below meth c A H locs ls Qf cf hr hlk hnm hQ hw hl
  have hx := cf.1
  have hb := cf.2.1
  have hml := cf.2.2.1
  have hown := cf.2.2.2.1
  have hts := cf.2.2.2.2
  have hw : WD g A s H locs [bO ra 1 (rF rd (nI q.2.1.length) (nI q.2.2.1.length) (nI q.2.2.2.1) (nI q.2.2.2.2.1) (nI q.2.2.2.2.2) ky), bI g (rd 1) 96 cz, bI g (rd 2) 96 sz] := hw
  have hl : lv_has ls 2 [(0, .ref ra), (1, .int v)] := hl
  refine lv_aload_n hx hb dX1_takeValue_0 rfl (lv_at hl 0 rfl) ?_
  refine lv_dup hx hb dX1_takeValue_1 rfl ?_
  refine s_get (v := .int (nI q.2.2.2.2.2)) fb1 cf hw 0 rfl 6 rfl q229 rfl dX1_takeValue_2 ?_
  refine lv_iconst (v := 1) hx hb dX1_takeValue_5 (by decide) ?_
  refine lv_iadd hx hb dX1_takeValue_6 ?_
  refine lv_topr (y := nI (q.2.2.2.2.2 + 1)) (nI_1 _) ?_
  refine s_put (v := .int (nI (q.2.2.2.2.2 + 1))) fb1 cf hw 0 rfl 6 rfl q229 rfl rfl rfl rfl dX1_takeValue_7 (fun H locs hw => ?_)
  have hw : WD g A s H locs [bO ra 1 (rF rd (nI q.2.1.length) (nI q.2.2.1.length) (nI q.2.2.2.1) (nI q.2.2.2.2.1) (nI (q.2.2.2.2.2 + 1)) ky), bI g (rd 1) 96 cz, bI g (rd 2) 96 sz] := hw
  refine lv_aload_n hx hb dX1_takeValue_10 rfl (lv_at hl 0 rfl) ?_
  refine lv_iload_n hx hb dX1_takeValue_11 rfl (lv_at hl 1 rfl) ?_
  refine s_callv (runV cf (x_write (ra := ra) (rd := rd) (ky := ky) (O := q.2.1) (o_ := nI q.2.2.1.length) (b_ := nI q.2.2.2.1) (n_ := nI q.2.2.2.2.1) (p_ := nI (q.2.2.2.2.2 + 1)) (cz := cz) (by have := hok.1; omega) v) hw [0, 1] (by decide) rfl km_X1_write ki_X1_write q761 (run_recv (ci := 1) (T := TX1) (N := 8) hw 0 rfl rfl) rfl rfl hl.1 rfl dX1_takeValue_12) hw [0, 1] (by decide) rfl (fun _ => rfl) (fun u_1 H locs hp_2 hw => ?_)
  have hw : WD g A s H locs [bO ra 1 (rF rd (nI (q.2.1.length + 1)) (nI q.2.2.1.length) (nI q.2.2.2.1) (nI q.2.2.2.2.1) (nI (q.2.2.2.2.2 + 1)) ky), bI g (rd 1) 96 (upd cz q.2.1.length v), bI g (rd 2) 96 sz] := hw
  have hw : WD g A s H locs [bO ra 1 (rF rd (nI (q.2.1 ++ [v]).length) (nI q.2.2.1.length) (nI q.2.2.2.1) (nI q.2.2.2.2.1) (nI (q.2.2.2.2.2 + 1)) ky), bI g (rd 1) 96 (upd cz q.2.1.length v), bI g (rd 2) 96 sz] := by rw [show (q.2.1 ++ [(v : Int32)]).length = q.2.1.length + 1 by rw [List.length_append]; rfl]; exact hw
  refine lv_aload_n hx hb dX1_takeValue_15 rfl (lv_at hl 0 rfl) ?_
  refine s_callv (runV cf (x_closeN (ra := ra) (rd := rd) (ky := ky) (b_ := nI q.2.2.2.1) (p_ := nI (q.2.2.2.2.2 + 1)) (q.2.1 ++ [v]) q.2.2.1 (upd cz q.2.1.length v) sz (CR.snoc hcz) hsz (by have := hok.1; rw [List.length_append]; show q.2.1.length + 1 + _ ≤ 96; omega) q.2.2.2.2.1 hok.2.1 (by have := hok.2.2.1; omega)) hw [0, 1, 2] (by decide) rfl km_X1_closeNots ki_X1_closeNots q765 (run_recv (ci := 1) (T := TX1) (N := 8) hw 0 rfl rfl) rfl rfl hl.1 rfl dX1_takeValue_16) hw [0, 1, 2] (by decide) rfl (fun _ => rfl) (fun u_3 H locs hp_4 hw => ?_)
  have hw : WD g A s H locs [bO ra 1 (rF rd (nI (closeN (q.2.1 ++ [v]) q.2.2.1 q.2.2.2.2.1).1.length) (nI (closeN (q.2.1 ++ [v]) q.2.2.1 q.2.2.2.2.1).2.1.length) (nI q.2.2.2.1) (nI (closeN (q.2.1 ++ [v]) q.2.2.1 q.2.2.2.2.1).2.2) (nI (q.2.2.2.2.2 + 1)) ky), bI g (rd 1) 96 u_3, bI g (rd 2) 96 sz] := hw
  have hcN := hp_4
  refine lv_iconst (v := 1) hx hb dX1_takeValue_19 (by decide) ?_
  exact s_iret cf hr hlk u_3 hw (⟨rfl, hcN.1, hcN.2⟩) (Nat.le_of_ble_eq_true rfl) (Nat.le_of_ble_eq_true rfl) dX1_takeValue_20 hQ
theorem max0 {n : Nat} (h : n < 1000) : (if (0 : Int32) < nI n - 1 then nI n - 1 else 0) = nI (n - 1) := by
  rcases n with _ | k
  · decide
  · rw [nI_pred]
    show _ = nI k
    by_cases z : (0 : Int32) < nI k
    · rw [if_pos z]
    · rw [if_neg z]
      have : k = 0 := by
        rcases Nat.eq_zero_or_pos k with y | y
        · exact y
        · exact absurd (nI_lt (a := 0) y (by omega)) z
      rw [this]; rfl
theorem pr_tail {pl : Nat → Int32} {S : List Int32} (h : PR pl S) : PR pl S.tail := by
  cases S with
  | nil => exact h
  | cons a S => exact h.pop
theorem pr_top {pl : Nat → Int32} {S : List Int32} (h : PR pl S) (h0 : 0 < S.length) : pl (S.length - 1) = S.headD 0 := by
  cases S with
  | nil => exact absurd h0 (by decide)
  | cons a S => exact h.top
theorem sgn_f {c : Int32} {q : MS} (h1 : ¬ c = 41) (h2 : ¬ rk c = 0) (h3 : rk c = 3 ∧ tpR (closeD (rk c + 1) q.2.1 q.2.2.1).2 = 3) : sgnM c q = none := by unfold sgnM; rw [if_neg h1, if_neg h2, if_pos h3]
theorem sgn_t {c : Int32} {q : MS} (h1 : ¬ c = 41) (h2 : ¬ rk c = 0) (h3 : ¬ (rk c = 3 ∧ tpR (closeD (rk c + 1) q.2.1 q.2.2.1).2 = 3)) : sgnM c q = some (false, (closeD (rk c) (closeD (rk c + 1) q.2.1 q.2.2.1).1 (closeD (rk c + 1) q.2.1 q.2.2.1).2).1, c :: (closeD (rk c) (closeD (rk c + 1) q.2.1 q.2.2.1).1 (closeD (rk c + 1) q.2.1 q.2.2.1).2).2, q.2.2.2.1, q.2.2.2.2.1, q.2.2.2.2.2) := by unfold sgnM; rw [if_neg h1, if_neg h2, if_neg h3]
set_option maxRecDepth 100000 in
set_option maxHeartbeats 4000000 in
theorem x_takeBracket {l : Launch} {g : GG} {ra : Nat} {rd : Nat → Nat} {ky : Int32} (q : MS) (cz sz : DD) (hcz : CR cz q.2.1) (hsz : PR sz q.2.2.1) (hok : okM q 95) : Ct l g yX1_takeBracket cX1_takeBracket 1 (Option.some Jvm.ClassFile.FieldType.int) 2 0 0 [.ref ra] [bO ra 1 (rF rd (nI q.2.1.length) (nI q.2.2.1.length) (nI q.2.2.2.1) (nI q.2.2.2.2.1) (nI q.2.2.2.2.2) ky), bI g (rd 1) 96 cz, bI g (rd 2) 96 sz] (QI g (fun r (u : DD × MS) => CR u.1 u.2.2.1 ∧ PR sz u.2.2.2.1 ∧ ((r = 2 ∧ brkM q = none) ∨ (r = (if u.2.1 = true then 1 else 0) ∧ brkM q = some u.2))) (fun u => [bO ra 1 (rF rd (nI u.2.2.1.length) (nI u.2.2.2.1.length) (nI u.2.2.2.2.1) (nI u.2.2.2.2.2.1) (nI u.2.2.2.2.2.2) ky), bI g (rd 1) 96 u.1, bI g (rd 2) 96 sz])) := by
  refine Ct.of (by decide) rfl ?_
  intro p e s m args below meth c A H locs ls Qf cf hr hlk hnm hQ hw hl
  have hx := cf.1
  have hb := cf.2.1
  have hml := cf.2.2.1
  have hown := cf.2.2.2.1
  have hts := cf.2.2.2.2
  have hw : WD g A s H locs [bO ra 1 (rF rd (nI q.2.1.length) (nI q.2.2.1.length) (nI q.2.2.2.1) (nI q.2.2.2.2.1) (nI q.2.2.2.2.2) ky), bI g (rd 1) 96 cz, bI g (rd 2) 96 sz] := hw
  have hl : lv_has ls 1 [(0, .ref ra)] := hl
  refine lv_aload_n hx hb dX1_takeBracket_0 rfl (lv_at hl 0 rfl) ?_
  refine s_get (v := .int (nI q.2.2.2.1)) fb1 cf hw 0 rfl 4 rfl q227 rfl dX1_takeBracket_1 ?_
  refine lv_if_ne (tgt := 9) hx hb dX1_takeBracket_4 (by decide) (fun c4 => ?_) (fun c4 => ?_)
  · have hb0 : ¬ q.2.2.2.1 = 0 := fun z => c4 (by rw [z]; rfl)
    refine lv_aload_n hx hb dX1_takeBracket_9 rfl (lv_at hl 0 rfl) ?_
    refine lv_iconst (v := 1) hx hb dX1_takeBracket_10 (by decide) ?_
    refine s_callv (runV cf (x_closeD (ra := ra) (rd := rd) (ky := ky) (b_ := nI q.2.2.2.1) (n_ := nI q.2.2.2.2.1) (p_ := nI q.2.2.2.2.2) q.2.1 q.2.2.1 cz sz hcz hsz (by have := hok.1; omega) 1 (by omega)) hw [0, 1, 2] (by decide) rfl km_X1_closeDownTo ki_X1_closeDownTo q784 (run_recv (ci := 1) (T := TX1) (N := 8) hw 0 rfl rfl) rfl rfl hl.1 rfl dX1_takeBracket_11) hw [0, 1, 2] (by decide) rfl (fun _ => rfl) (fun u_1 H locs hp_2 hw => ?_)
    have hw : WD g A s H locs [bO ra 1 (rF rd (nI (closeD 1 q.2.1 q.2.2.1).1.length) (nI (closeD 1 q.2.1 q.2.2.1).2.length) (nI q.2.2.2.1) (nI q.2.2.2.2.1) (nI q.2.2.2.2.2) ky), bI g (rd 1) 96 u_1, bI g (rd 2) 96 sz] := hw
    have hcD := hp_2
    have hD := hcD
    have hl1 := closeD_len (r := 1) q.2.2.1 q.2.1
    have hk1 := hok.1
    have hb8 := hok.2.2.2
    refine lv_aload_n hx hb dX1_takeBracket_14 rfl (lv_at hl 0 rfl) ?_
    refine lv_dup hx hb dX1_takeBracket_15 rfl ?_
    refine s_get (v := .int (nI q.2.2.2.1)) fb1 cf hw 0 rfl 4 rfl q227 rfl dX1_takeBracket_16 ?_
    refine lv_iconst (v := 1) hx hb dX1_takeBracket_19 (by decide) ?_
    refine lv_isub hx hb dX1_takeBracket_20 ?_
    refine lv_topr (y := nI (q.2.2.2.1 - 1)) (pk_sub (b := 1) (by omega)) ?_
    refine s_put (v := .int (nI (q.2.2.2.1 - 1))) fb1 cf hw 0 rfl 4 rfl q227 rfl rfl rfl rfl dX1_takeBracket_21 (fun H locs hw => ?_)
    have hw : WD g A s H locs [bO ra 1 (rF rd (nI (closeD 1 q.2.1 q.2.2.1).1.length) (nI (closeD 1 q.2.1 q.2.2.1).2.length) (nI (q.2.2.2.1 - 1)) (nI q.2.2.2.2.1) (nI q.2.2.2.2.2) ky), bI g (rd 1) 96 u_1, bI g (rd 2) 96 sz] := hw
    refine lv_aload_n hx hb dX1_takeBracket_24 rfl (lv_at hl 0 rfl) ?_
    refine lv_iconst (v := 0) hx hb dX1_takeBracket_25 (by decide) ?_
    refine lv_aload_n hx hb dX1_takeBracket_26 rfl (lv_at hl 0 rfl) ?_
    refine s_get (v := .int (nI (closeD 1 q.2.1 q.2.2.1).2.length)) fb1 cf hw 0 rfl 3 rfl q226 rfl dX1_takeBracket_27 ?_
    refine lv_iconst (v := 1) hx hb dX1_takeBracket_30 (by decide) ?_
    refine lv_isub hx hb dX1_takeBracket_31 ?_
    refine va_mmax hx hb (by rw [hml]; exact hl.1.symm) hown (hts _ q791) (hts _ ks_J9_max_7cf53) (hts _ km_J9_max_7cf53.1) (hts _ km_J9_max_7cf53.2.1) (Nat.le_of_ble_eq_true rfl) (Nat.le_of_ble_eq_true rfl) (Nat.le_of_ble_eq_true rfl) (Nat.le_of_ble_eq_true rfl) dX1_takeBracket_32 ?_
    refine lv_topr (y := nI (closeD 1 q.2.1 q.2.2.1).2.tail.length) (by rw [List.length_tail]; exact max0 (by omega)) ?_
    refine s_put (v := .int (nI (closeD 1 q.2.1 q.2.2.1).2.tail.length)) fb1 cf hw 0 rfl 3 rfl q226 rfl rfl rfl rfl dX1_takeBracket_35 (fun H locs hw => ?_)
    have hw : WD g A s H locs [bO ra 1 (rF rd (nI (closeD 1 q.2.1 q.2.2.1).1.length) (nI (closeD 1 q.2.1 q.2.2.1).2.tail.length) (nI (q.2.2.2.1 - 1)) (nI q.2.2.2.2.1) (nI q.2.2.2.2.2) ky), bI g (rd 1) 96 u_1, bI g (rd 2) 96 sz] := hw
    have hpt : PR sz (closeD 1 q.2.1 q.2.2.1).2.tail := pr_tail hD.2
    have hlt := List.length_tail (l := (closeD 1 q.2.1 q.2.2.1).2)
    refine lv_aload_n hx hb dX1_takeBracket_38 rfl (lv_at hl 0 rfl) ?_
    refine s_callv (runV cf (x_closeN (ra := ra) (rd := rd) (ky := ky) (b_ := nI (q.2.2.2.1 - 1)) (p_ := nI q.2.2.2.2.2) (closeD 1 q.2.1 q.2.2.1).1 (closeD 1 q.2.1 q.2.2.1).2.tail u_1 sz hD.1 hpt (by omega) q.2.2.2.2.1 (nOK_tail (closeD_n (by omega) _ _ _ hok.2.1)) (by have := hok.2.2.1; omega)) hw [0, 1, 2] (by decide) rfl km_X1_closeNots ki_X1_closeNots q765 (run_recv (ci := 1) (T := TX1) (N := 8) hw 0 rfl rfl) rfl rfl hl.1 rfl dX1_takeBracket_39) hw [0, 1, 2] (by decide) rfl (fun _ => rfl) (fun u_3 H locs hp_4 hw => ?_)
    have hw : WD g A s H locs [bO ra 1 (rF rd (nI (closeN (closeD 1 q.2.1 q.2.2.1).1 (closeD 1 q.2.1 q.2.2.1).2.tail q.2.2.2.2.1).1.length) (nI (closeN (closeD 1 q.2.1 q.2.2.1).1 (closeD 1 q.2.1 q.2.2.1).2.tail q.2.2.2.2.1).2.1.length) (nI (q.2.2.2.1 - 1)) (nI (closeN (closeD 1 q.2.1 q.2.2.1).1 (closeD 1 q.2.1 q.2.2.1).2.tail q.2.2.2.2.1).2.2) (nI q.2.2.2.2.2) ky), bI g (rd 1) 96 u_3, bI g (rd 2) 96 sz] := hw
    have hcN := hp_4
    refine lv_iconst (v := 1) hx hb dX1_takeBracket_42 (by decide) ?_
    exact s_iret cf hr hlk (u_3, (true, (closeN (closeD 1 q.2.1 q.2.2.1).1 (closeD 1 q.2.1 q.2.2.1).2.tail q.2.2.2.2.1).1, (closeN (closeD 1 q.2.1 q.2.2.1).1 (closeD 1 q.2.1 q.2.2.1).2.tail q.2.2.2.2.1).2.1, q.2.2.2.1 - 1, (closeN (closeD 1 q.2.1 q.2.2.1).1 (closeD 1 q.2.1 q.2.2.1).2.tail q.2.2.2.2.1).2.2, q.2.2.2.2.2)) hw (⟨hcN.1, hcN.2, Or.inr ⟨rfl, if_neg hb0⟩⟩) (Nat.le_of_ble_eq_true rfl) (Nat.le_of_ble_eq_true rfl) dX1_takeBracket_43 hQ
  · have hb0 : q.2.2.2.1 = 0 := (nI_eq (b := 0) (by have := hok.2.2.2; omega) (by omega)).mp c4
    refine lv_iconst (v := 2) hx hb dX1_takeBracket_7 (by decide) ?_
    exact s_iret cf hr hlk (cz, q) hw (⟨hcz, hsz, Or.inl ⟨rfl, if_pos hb0⟩⟩) (Nat.le_of_ble_eq_true rfl) (Nat.le_of_ble_eq_true rfl) dX1_takeBracket_8 hQ
set_option maxRecDepth 100000 in
set_option maxHeartbeats 4000000 in
theorem x_takeSign {l : Launch} {g : GG} {ra : Nat} {rd : Nat → Nat} {ky : Int32} (q : MS) (cz sz : DD) (hcz : CR cz q.2.1) (hsz : PR sz q.2.2.1) (hok : okM q 95) (c_ : Int32) : Ct l g yX1_takeSign cX1_takeSign 3 (Option.some Jvm.ClassFile.FieldType.int) 3 0 0 [.ref ra, .int c_] [bO ra 1 (rF rd (nI q.2.1.length) (nI q.2.2.1.length) (nI q.2.2.2.1) (nI q.2.2.2.2.1) (nI q.2.2.2.2.2) ky), bI g (rd 1) 96 cz, bI g (rd 2) 96 sz] (QI g (fun r (u : DD × DD × MS) => CR u.1 u.2.2.2.1 ∧ PR u.2.1 u.2.2.2.2.1 ∧ ((r = 2 ∧ sgnM c_ q = none) ∨ (r = (if u.2.2.1 = true then 1 else 0) ∧ sgnM c_ q = some u.2.2))) (fun u => [bO ra 1 (rF rd (nI u.2.2.2.1.length) (nI u.2.2.2.2.1.length) (nI u.2.2.2.2.2.1) (nI u.2.2.2.2.2.2.1) (nI u.2.2.2.2.2.2.2) ky), bI g (rd 1) 96 u.1, bI g (rd 2) 96 u.2.1])) := by
  refine Ct.of (by decide) rfl ?_
  intro p e s m args below meth c A H locs ls Qf cf hr hlk hnm hQ hw hl
  have hx := cf.1
  have hb := cf.2.1
  have hml := cf.2.2.1
  have hown := cf.2.2.2.1
  have hts := cf.2.2.2.2
  have hw : WD g A s H locs [bO ra 1 (rF rd (nI q.2.1.length) (nI q.2.2.1.length) (nI q.2.2.2.1) (nI q.2.2.2.2.1) (nI q.2.2.2.2.2) ky), bI g (rd 1) 96 cz, bI g (rd 2) 96 sz] := hw
  have hl : lv_has ls 3 [(0, .ref ra), (1, .int c_)] := hl
  refine lv_iload_n hx hb dX1_takeSign_0 rfl (lv_at hl 1 rfl) ?_
  refine lv_bipush (v := 41) hx hb dX1_takeSign_1 (by decide) ?_
  refine lv_icmp_ne (tgt := 11) hx hb dX1_takeSign_3 (by decide) (fun c3 => ?_) (fun c3 => ?_)
  · refine lv_iload_n hx hb dX1_takeSign_11 rfl (lv_at hl 1 rfl) ?_
    refine s_calli (runS cf (x_rankOf c_) hw [] (by decide) rfl km_X1_rankOf ks_X1_rankOf q788 rfl rfl hl.1 rfl dX1_takeSign_12) hw [] (by decide) rfl (fun _ => rfl) (fun r_3 u_1 H locs hp_2 hw => ?_)
    have hw : WD g A s H locs [bO ra 1 (rF rd (nI q.2.1.length) (nI q.2.2.1.length) (nI q.2.2.2.1) (nI q.2.2.2.2.1) (nI q.2.2.2.2.2) ky), bI g (rd 1) 96 cz, bI g (rd 2) 96 sz] := hw
    subst hp_2
    have hrk := rk_le c_
    refine lv_istore_n (lv' := [(2, .int (nI (rk c_))), (0, .ref ra), (1, .int c_)]) hx hb dX1_takeSign_15 rfl hl (by decide) rfl (fun ls hl => ?_)
    refine lv_iload_n hx hb dX1_takeSign_16 rfl (lv_at hl 0 rfl) ?_
    refine lv_if_ne (tgt := 22) hx hb dX1_takeSign_17 (by decide) (fun c17 => ?_) (fun c17 => ?_)
    · have hr0 : ¬ rk c_ = 0 := fun z => c17 (by rw [z]; rfl)
      refine lv_aload_n hx hb dX1_takeSign_22 rfl (lv_at hl 1 rfl) ?_
      refine lv_iload_n hx hb dX1_takeSign_23 rfl (lv_at hl 0 rfl) ?_
      refine lv_iconst (v := 1) hx hb dX1_takeSign_24 (by decide) ?_
      refine lv_iadd hx hb dX1_takeSign_25 ?_
      refine lv_topr (y := nI (rk c_ + 1)) (nI_1 _) ?_
      refine s_callv (runV cf (x_closeD (ra := ra) (rd := rd) (ky := ky) (b_ := nI q.2.2.2.1) (n_ := nI q.2.2.2.2.1) (p_ := nI q.2.2.2.2.2) q.2.1 q.2.2.1 cz sz hcz hsz (by have := hok.1; omega) (rk c_ + 1) (by omega)) hw [0, 1, 2] (by decide) rfl km_X1_closeDownTo ki_X1_closeDownTo q784 (run_recv (ci := 1) (T := TX1) (N := 8) hw 0 rfl rfl) rfl rfl hl.1 rfl dX1_takeSign_26) hw [0, 1, 2] (by decide) rfl (fun _ => rfl) (fun u_4 H locs hp_5 hw => ?_)
      have hw : WD g A s H locs [bO ra 1 (rF rd (nI (closeD (rk c_ + 1) q.2.1 q.2.2.1).1.length) (nI (closeD (rk c_ + 1) q.2.1 q.2.2.1).2.length) (nI q.2.2.2.1) (nI q.2.2.2.2.1) (nI q.2.2.2.2.2) ky), bI g (rd 1) 96 u_4, bI g (rd 2) 96 sz] := hw
      have hcD := hp_5
      have hA := hcD
      have hl1 := closeD_len (r := rk c_ + 1) q.2.2.1 q.2.1
      have hk1 := hok.1
      refine lv_iload_n hx hb dX1_takeSign_29 rfl (lv_at hl 0 rfl) ?_
      refine lv_iconst (v := 3) hx hb dX1_takeSign_30 (by decide) ?_
      refine lv_icmp_ne (tgt := 61) hx hb dX1_takeSign_31 (by decide) (fun c31 => ?_) (fun c31 => ?_)
      · have hnf : ¬ (rk c_ = 3 ∧ tpR (closeD (rk c_ + 1) q.2.1 q.2.2.1).2 = 3) := fun z => c31 (by rw [z.1]; rfl)
        refine lv_aload_n hx hb dX1_takeSign_61 rfl (lv_at hl 1 rfl) ?_
        refine lv_iload_n hx hb dX1_takeSign_62 rfl (lv_at hl 0 rfl) ?_
        refine s_callv (runV cf (x_closeD (ra := ra) (rd := rd) (ky := ky) (b_ := nI q.2.2.2.1) (n_ := nI q.2.2.2.2.1) (p_ := nI q.2.2.2.2.2) (closeD (rk c_ + 1) q.2.1 q.2.2.1).1 (closeD (rk c_ + 1) q.2.1 q.2.2.1).2 u_4 sz hA.1 hA.2 (by omega) (rk c_) (by omega)) hw [0, 1, 2] (by decide) rfl km_X1_closeDownTo ki_X1_closeDownTo q784 (run_recv (ci := 1) (T := TX1) (N := 8) hw 0 rfl rfl) rfl rfl hl.1 rfl dX1_takeSign_63) hw [0, 1, 2] (by decide) rfl (fun _ => rfl) (fun u_6 H locs hp_7 hw => ?_)
        have hw : WD g A s H locs [bO ra 1 (rF rd (nI (closeD (rk c_) (closeD (rk c_ + 1) q.2.1 q.2.2.1).1 (closeD (rk c_ + 1) q.2.1 q.2.2.1).2).1.length) (nI (closeD (rk c_) (closeD (rk c_ + 1) q.2.1 q.2.2.1).1 (closeD (rk c_ + 1) q.2.1 q.2.2.1).2).2.length) (nI q.2.2.2.1) (nI q.2.2.2.2.1) (nI q.2.2.2.2.2) ky), bI g (rd 1) 96 u_6, bI g (rd 2) 96 sz] := hw
        have hcD := hp_7
        have hB := hcD
        have hl2 := closeD_len (r := rk c_) (closeD (rk c_ + 1) q.2.1 q.2.2.1).2 (closeD (rk c_ + 1) q.2.1 q.2.2.1).1
        refine lv_aload_n hx hb dX1_takeSign_66 rfl (lv_at hl 1 rfl) ?_
        refine lv_iload_n hx hb dX1_takeSign_67 rfl (lv_at hl 2 rfl) ?_
        refine s_callv (runV cf (x_leave (ra := ra) (rd := rd) (ky := ky) (S := (closeD (rk c_) (closeD (rk c_ + 1) q.2.1 q.2.2.1).1 (closeD (rk c_ + 1) q.2.1 q.2.2.1).2).2) (w_ := nI (closeD (rk c_) (closeD (rk c_ + 1) q.2.1 q.2.2.1).1 (closeD (rk c_ + 1) q.2.1 q.2.2.1).2).1.length) (b_ := nI q.2.2.2.1) (n_ := nI q.2.2.2.2.1) (p_ := nI q.2.2.2.2.2) (sz := sz) (by omega) c_) hw [0, 2] (by decide) rfl km_X1_leaveOpen ki_X1_leaveOpen q772 (run_recv (ci := 1) (T := TX1) (N := 8) hw 0 rfl rfl) rfl rfl hl.1 rfl dX1_takeSign_68) hw [0, 2] (by decide) rfl (fun _ => rfl) (fun u_8 H locs hp_9 hw => ?_)
        have hw : WD g A s H locs [bO ra 1 (rF rd (nI (closeD (rk c_) (closeD (rk c_ + 1) q.2.1 q.2.2.1).1 (closeD (rk c_ + 1) q.2.1 q.2.2.1).2).1.length) (nI ((closeD (rk c_) (closeD (rk c_ + 1) q.2.1 q.2.2.1).1 (closeD (rk c_ + 1) q.2.1 q.2.2.1).2).2.length + 1)) (nI q.2.2.2.1) (nI q.2.2.2.2.1) (nI q.2.2.2.2.2) ky), bI g (rd 1) 96 u_6, bI g (rd 2) 96 (upd sz (closeD (rk c_) (closeD (rk c_ + 1) q.2.1 q.2.2.1).1 (closeD (rk c_ + 1) q.2.1 q.2.2.1).2).2.length c_)] := hw
        have hw : WD g A s H locs [bO ra 1 (rF rd (nI (closeD (rk c_) (closeD (rk c_ + 1) q.2.1 q.2.2.1).1 (closeD (rk c_ + 1) q.2.1 q.2.2.1).2).1.length) (nI (c_ :: (closeD (rk c_) (closeD (rk c_ + 1) q.2.1 q.2.2.1).1 (closeD (rk c_ + 1) q.2.1 q.2.2.1).2).2).length) (nI q.2.2.2.1) (nI q.2.2.2.2.1) (nI q.2.2.2.2.2) ky), bI g (rd 1) 96 u_6, bI g (rd 2) 96 (upd sz (closeD (rk c_) (closeD (rk c_ + 1) q.2.1 q.2.2.1).1 (closeD (rk c_ + 1) q.2.1 q.2.2.1).2).2.length c_)] := hw
        refine lv_iconst (v := 0) hx hb dX1_takeSign_71 (by decide) ?_
        exact s_iret cf hr hlk (u_6, upd sz (closeD (rk c_) (closeD (rk c_ + 1) q.2.1 q.2.2.1).1 (closeD (rk c_ + 1) q.2.1 q.2.2.1).2).2.length c_, (false, (closeD (rk c_) (closeD (rk c_ + 1) q.2.1 q.2.2.1).1 (closeD (rk c_ + 1) q.2.1 q.2.2.1).2).1, c_ :: (closeD (rk c_) (closeD (rk c_ + 1) q.2.1 q.2.2.1).1 (closeD (rk c_ + 1) q.2.1 q.2.2.1).2).2, q.2.2.2.1, q.2.2.2.2.1, q.2.2.2.2.2)) hw (⟨hB.1, hB.2.up, Or.inr ⟨rfl, sgn_t c3 hr0 hnf⟩⟩) (Nat.le_of_ble_eq_true rfl) (Nat.le_of_ble_eq_true rfl) dX1_takeSign_72 hQ
      · refine lv_aload_n hx hb dX1_takeSign_34 rfl (lv_at hl 1 rfl) ?_
        refine s_get (v := .int (nI (closeD (rk c_ + 1) q.2.1 q.2.2.1).2.length)) fb1 cf hw 0 rfl 3 rfl q226 rfl dX1_takeSign_35 ?_
        refine lv_if_le (tgt := 61) hx hb dX1_takeSign_38 (by decide) (fun c38 => ?_) (fun c38 => ?_)
        · have hS0 : (closeD (rk c_ + 1) q.2.1 q.2.2.1).2.length = 0 := by rcases Nat.eq_zero_or_pos (closeD (rk c_ + 1) q.2.1 q.2.2.1).2.length with z | z; exact z; exact absurd c38 (nI_nle z (by omega))
          have hnf : ¬ (rk c_ = 3 ∧ tpR (closeD (rk c_ + 1) q.2.1 q.2.2.1).2 = 3) := fun z => by have e : (closeD (rk c_ + 1) q.2.1 q.2.2.1).2 = [] := List.eq_nil_of_length_eq_zero hS0; have h3 := z.2; rw [e] at h3; exact absurd h3 (by decide)
          refine lv_aload_n hx hb dX1_takeSign_61 rfl (lv_at hl 1 rfl) ?_
          refine lv_iload_n hx hb dX1_takeSign_62 rfl (lv_at hl 0 rfl) ?_
          refine s_callv (runV cf (x_closeD (ra := ra) (rd := rd) (ky := ky) (b_ := nI q.2.2.2.1) (n_ := nI q.2.2.2.2.1) (p_ := nI q.2.2.2.2.2) (closeD (rk c_ + 1) q.2.1 q.2.2.1).1 (closeD (rk c_ + 1) q.2.1 q.2.2.1).2 u_4 sz hA.1 hA.2 (by omega) (rk c_) (by omega)) hw [0, 1, 2] (by decide) rfl km_X1_closeDownTo ki_X1_closeDownTo q784 (run_recv (ci := 1) (T := TX1) (N := 8) hw 0 rfl rfl) rfl rfl hl.1 rfl dX1_takeSign_63) hw [0, 1, 2] (by decide) rfl (fun _ => rfl) (fun u_10 H locs hp_11 hw => ?_)
          have hw : WD g A s H locs [bO ra 1 (rF rd (nI (closeD (rk c_) (closeD (rk c_ + 1) q.2.1 q.2.2.1).1 (closeD (rk c_ + 1) q.2.1 q.2.2.1).2).1.length) (nI (closeD (rk c_) (closeD (rk c_ + 1) q.2.1 q.2.2.1).1 (closeD (rk c_ + 1) q.2.1 q.2.2.1).2).2.length) (nI q.2.2.2.1) (nI q.2.2.2.2.1) (nI q.2.2.2.2.2) ky), bI g (rd 1) 96 u_10, bI g (rd 2) 96 sz] := hw
          have hcD := hp_11
          have hB := hcD
          have hl2 := closeD_len (r := rk c_) (closeD (rk c_ + 1) q.2.1 q.2.2.1).2 (closeD (rk c_ + 1) q.2.1 q.2.2.1).1
          refine lv_aload_n hx hb dX1_takeSign_66 rfl (lv_at hl 1 rfl) ?_
          refine lv_iload_n hx hb dX1_takeSign_67 rfl (lv_at hl 2 rfl) ?_
          refine s_callv (runV cf (x_leave (ra := ra) (rd := rd) (ky := ky) (S := (closeD (rk c_) (closeD (rk c_ + 1) q.2.1 q.2.2.1).1 (closeD (rk c_ + 1) q.2.1 q.2.2.1).2).2) (w_ := nI (closeD (rk c_) (closeD (rk c_ + 1) q.2.1 q.2.2.1).1 (closeD (rk c_ + 1) q.2.1 q.2.2.1).2).1.length) (b_ := nI q.2.2.2.1) (n_ := nI q.2.2.2.2.1) (p_ := nI q.2.2.2.2.2) (sz := sz) (by omega) c_) hw [0, 2] (by decide) rfl km_X1_leaveOpen ki_X1_leaveOpen q772 (run_recv (ci := 1) (T := TX1) (N := 8) hw 0 rfl rfl) rfl rfl hl.1 rfl dX1_takeSign_68) hw [0, 2] (by decide) rfl (fun _ => rfl) (fun u_12 H locs hp_13 hw => ?_)
          have hw : WD g A s H locs [bO ra 1 (rF rd (nI (closeD (rk c_) (closeD (rk c_ + 1) q.2.1 q.2.2.1).1 (closeD (rk c_ + 1) q.2.1 q.2.2.1).2).1.length) (nI ((closeD (rk c_) (closeD (rk c_ + 1) q.2.1 q.2.2.1).1 (closeD (rk c_ + 1) q.2.1 q.2.2.1).2).2.length + 1)) (nI q.2.2.2.1) (nI q.2.2.2.2.1) (nI q.2.2.2.2.2) ky), bI g (rd 1) 96 u_10, bI g (rd 2) 96 (upd sz (closeD (rk c_) (closeD (rk c_ + 1) q.2.1 q.2.2.1).1 (closeD (rk c_ + 1) q.2.1 q.2.2.1).2).2.length c_)] := hw
          have hw : WD g A s H locs [bO ra 1 (rF rd (nI (closeD (rk c_) (closeD (rk c_ + 1) q.2.1 q.2.2.1).1 (closeD (rk c_ + 1) q.2.1 q.2.2.1).2).1.length) (nI (c_ :: (closeD (rk c_) (closeD (rk c_ + 1) q.2.1 q.2.2.1).1 (closeD (rk c_ + 1) q.2.1 q.2.2.1).2).2).length) (nI q.2.2.2.1) (nI q.2.2.2.2.1) (nI q.2.2.2.2.2) ky), bI g (rd 1) 96 u_10, bI g (rd 2) 96 (upd sz (closeD (rk c_) (closeD (rk c_ + 1) q.2.1 q.2.2.1).1 (closeD (rk c_ + 1) q.2.1 q.2.2.1).2).2.length c_)] := hw
          refine lv_iconst (v := 0) hx hb dX1_takeSign_71 (by decide) ?_
          exact s_iret cf hr hlk (u_10, upd sz (closeD (rk c_) (closeD (rk c_ + 1) q.2.1 q.2.2.1).1 (closeD (rk c_ + 1) q.2.1 q.2.2.1).2).2.length c_, (false, (closeD (rk c_) (closeD (rk c_ + 1) q.2.1 q.2.2.1).1 (closeD (rk c_ + 1) q.2.1 q.2.2.1).2).1, c_ :: (closeD (rk c_) (closeD (rk c_ + 1) q.2.1 q.2.2.1).1 (closeD (rk c_ + 1) q.2.1 q.2.2.1).2).2, q.2.2.2.1, q.2.2.2.2.1, q.2.2.2.2.2)) hw (⟨hB.1, hB.2.up, Or.inr ⟨rfl, sgn_t c3 hr0 hnf⟩⟩) (Nat.le_of_ble_eq_true rfl) (Nat.le_of_ble_eq_true rfl) dX1_takeSign_72 hQ
        · have hS0 : 0 < (closeD (rk c_ + 1) q.2.1 q.2.2.1).2.length := by rcases Nat.eq_zero_or_pos (closeD (rk c_ + 1) q.2.1 q.2.2.1).2.length with z | z; exact absurd (by rw [z]; decide) c38; exact z
          refine lv_aload_n hx hb dX1_takeSign_41 rfl (lv_at hl 1 rfl) ?_
          refine s_get (v := .ref (rd 2)) fb1 cf hw 0 rfl 1 rfl q224 rfl dX1_takeSign_42 ?_
          refine lv_aload_n hx hb dX1_takeSign_45 rfl (lv_at hl 1 rfl) ?_
          refine s_get (v := .int (nI (closeD (rk c_ + 1) q.2.1 q.2.2.1).2.length)) fb1 cf hw 0 rfl 3 rfl q226 rfl dX1_takeSign_46 ?_
          refine lv_iconst (v := 1) hx hb dX1_takeSign_49 (by decide) ?_
          refine lv_isub hx hb dX1_takeSign_50 ?_
          refine s_iald (j := ((closeD (rk c_ + 1) q.2.1 q.2.2.1).2.length - 1)) cf hw 2 rfl (pk_sub (b := 1) (by omega)) (by omega) rfl dX1_takeSign_51 ?_
          refine s_calli (runS cf (x_rankOf (sz ((closeD (rk c_ + 1) q.2.1 q.2.2.1).2.length - 1))) hw [] (by decide) rfl km_X1_rankOf ks_X1_rankOf q788 rfl rfl hl.1 rfl dX1_takeSign_52) hw [] (by decide) rfl (fun _ => rfl) (fun r_16 u_14 H locs hp_15 hw => ?_)
          have hw : WD g A s H locs [bO ra 1 (rF rd (nI (closeD (rk c_ + 1) q.2.1 q.2.2.1).1.length) (nI (closeD (rk c_ + 1) q.2.1 q.2.2.1).2.length) (nI q.2.2.2.1) (nI q.2.2.2.2.1) (nI q.2.2.2.2.2) ky), bI g (rd 1) 96 u_4, bI g (rd 2) 96 sz] := hw
          subst hp_15
          refine lv_iconst (v := 3) hx hb dX1_takeSign_55 (by decide) ?_
          refine lv_icmp_ne (tgt := 61) hx hb dX1_takeSign_56 (by decide) (fun c56 => ?_) (fun c56 => ?_)
          · have hnf : ¬ (rk c_ = 3 ∧ tpR (closeD (rk c_ + 1) q.2.1 q.2.2.1).2 = 3) := fun z => c56 (by rw [pr_top hA.2 hS0]; have h3 := z.2; unfold tpR at h3; rw [h3]; rfl)
            refine lv_aload_n hx hb dX1_takeSign_61 rfl (lv_at hl 1 rfl) ?_
            refine lv_iload_n hx hb dX1_takeSign_62 rfl (lv_at hl 0 rfl) ?_
            refine s_callv (runV cf (x_closeD (ra := ra) (rd := rd) (ky := ky) (b_ := nI q.2.2.2.1) (n_ := nI q.2.2.2.2.1) (p_ := nI q.2.2.2.2.2) (closeD (rk c_ + 1) q.2.1 q.2.2.1).1 (closeD (rk c_ + 1) q.2.1 q.2.2.1).2 u_4 sz hA.1 hA.2 (by omega) (rk c_) (by omega)) hw [0, 1, 2] (by decide) rfl km_X1_closeDownTo ki_X1_closeDownTo q784 (run_recv (ci := 1) (T := TX1) (N := 8) hw 0 rfl rfl) rfl rfl hl.1 rfl dX1_takeSign_63) hw [0, 1, 2] (by decide) rfl (fun _ => rfl) (fun u_17 H locs hp_18 hw => ?_)
            have hw : WD g A s H locs [bO ra 1 (rF rd (nI (closeD (rk c_) (closeD (rk c_ + 1) q.2.1 q.2.2.1).1 (closeD (rk c_ + 1) q.2.1 q.2.2.1).2).1.length) (nI (closeD (rk c_) (closeD (rk c_ + 1) q.2.1 q.2.2.1).1 (closeD (rk c_ + 1) q.2.1 q.2.2.1).2).2.length) (nI q.2.2.2.1) (nI q.2.2.2.2.1) (nI q.2.2.2.2.2) ky), bI g (rd 1) 96 u_17, bI g (rd 2) 96 sz] := hw
            have hcD := hp_18
            have hB := hcD
            have hl2 := closeD_len (r := rk c_) (closeD (rk c_ + 1) q.2.1 q.2.2.1).2 (closeD (rk c_ + 1) q.2.1 q.2.2.1).1
            refine lv_aload_n hx hb dX1_takeSign_66 rfl (lv_at hl 1 rfl) ?_
            refine lv_iload_n hx hb dX1_takeSign_67 rfl (lv_at hl 2 rfl) ?_
            refine s_callv (runV cf (x_leave (ra := ra) (rd := rd) (ky := ky) (S := (closeD (rk c_) (closeD (rk c_ + 1) q.2.1 q.2.2.1).1 (closeD (rk c_ + 1) q.2.1 q.2.2.1).2).2) (w_ := nI (closeD (rk c_) (closeD (rk c_ + 1) q.2.1 q.2.2.1).1 (closeD (rk c_ + 1) q.2.1 q.2.2.1).2).1.length) (b_ := nI q.2.2.2.1) (n_ := nI q.2.2.2.2.1) (p_ := nI q.2.2.2.2.2) (sz := sz) (by omega) c_) hw [0, 2] (by decide) rfl km_X1_leaveOpen ki_X1_leaveOpen q772 (run_recv (ci := 1) (T := TX1) (N := 8) hw 0 rfl rfl) rfl rfl hl.1 rfl dX1_takeSign_68) hw [0, 2] (by decide) rfl (fun _ => rfl) (fun u_19 H locs hp_20 hw => ?_)
            have hw : WD g A s H locs [bO ra 1 (rF rd (nI (closeD (rk c_) (closeD (rk c_ + 1) q.2.1 q.2.2.1).1 (closeD (rk c_ + 1) q.2.1 q.2.2.1).2).1.length) (nI ((closeD (rk c_) (closeD (rk c_ + 1) q.2.1 q.2.2.1).1 (closeD (rk c_ + 1) q.2.1 q.2.2.1).2).2.length + 1)) (nI q.2.2.2.1) (nI q.2.2.2.2.1) (nI q.2.2.2.2.2) ky), bI g (rd 1) 96 u_17, bI g (rd 2) 96 (upd sz (closeD (rk c_) (closeD (rk c_ + 1) q.2.1 q.2.2.1).1 (closeD (rk c_ + 1) q.2.1 q.2.2.1).2).2.length c_)] := hw
            have hw : WD g A s H locs [bO ra 1 (rF rd (nI (closeD (rk c_) (closeD (rk c_ + 1) q.2.1 q.2.2.1).1 (closeD (rk c_ + 1) q.2.1 q.2.2.1).2).1.length) (nI (c_ :: (closeD (rk c_) (closeD (rk c_ + 1) q.2.1 q.2.2.1).1 (closeD (rk c_ + 1) q.2.1 q.2.2.1).2).2).length) (nI q.2.2.2.1) (nI q.2.2.2.2.1) (nI q.2.2.2.2.2) ky), bI g (rd 1) 96 u_17, bI g (rd 2) 96 (upd sz (closeD (rk c_) (closeD (rk c_ + 1) q.2.1 q.2.2.1).1 (closeD (rk c_ + 1) q.2.1 q.2.2.1).2).2.length c_)] := hw
            refine lv_iconst (v := 0) hx hb dX1_takeSign_71 (by decide) ?_
            exact s_iret cf hr hlk (u_17, upd sz (closeD (rk c_) (closeD (rk c_ + 1) q.2.1 q.2.2.1).1 (closeD (rk c_ + 1) q.2.1 q.2.2.1).2).2.length c_, (false, (closeD (rk c_) (closeD (rk c_ + 1) q.2.1 q.2.2.1).1 (closeD (rk c_ + 1) q.2.1 q.2.2.1).2).1, c_ :: (closeD (rk c_) (closeD (rk c_ + 1) q.2.1 q.2.2.1).1 (closeD (rk c_ + 1) q.2.1 q.2.2.1).2).2, q.2.2.2.1, q.2.2.2.2.1, q.2.2.2.2.2)) hw (⟨hB.1, hB.2.up, Or.inr ⟨rfl, sgn_t c3 hr0 hnf⟩⟩) (Nat.le_of_ble_eq_true rfl) (Nat.le_of_ble_eq_true rfl) dX1_takeSign_72 hQ
          · refine lv_iconst (v := 2) hx hb dX1_takeSign_59 (by decide) ?_
            exact s_iret cf hr hlk (u_4, sz, (q.1, (closeD (rk c_ + 1) q.2.1 q.2.2.1).1, (closeD (rk c_ + 1) q.2.1 q.2.2.1).2, q.2.2.2.1, q.2.2.2.2.1, q.2.2.2.2.2)) hw (⟨hA.1, hA.2, Or.inl ⟨rfl, sgn_f c3 hr0 ⟨(nI_eq (b := 3) (by omega) (by omega)).mp c31, by unfold tpR; rw [← pr_top hA.2 hS0]; exact (nI_eq (b := 3) (by have := rk_le (sz ((closeD (rk c_ + 1) q.2.1 q.2.2.1).2.length - 1)); omega) (by omega)).mp c56⟩⟩⟩) (Nat.le_of_ble_eq_true rfl) (Nat.le_of_ble_eq_true rfl) dX1_takeSign_60 hQ
    · have hr0 : rk c_ = 0 := (nI_eq (b := 0) (by omega) (by omega)).mp c17
      refine lv_iconst (v := 2) hx hb dX1_takeSign_20 (by decide) ?_
      exact s_iret cf hr hlk (cz, sz, q) hw (⟨hcz, hsz, Or.inl ⟨rfl, by unfold sgnM; rw [if_neg c3, if_pos hr0]⟩⟩) (Nat.le_of_ble_eq_true rfl) (Nat.le_of_ble_eq_true rfl) dX1_takeSign_21 hQ
  · refine lv_aload_n hx hb dX1_takeSign_6 rfl (lv_at hl 0 rfl) ?_
    refine s_calli (runV cf (x_takeBracket (ra := ra) (rd := rd) (ky := ky) q cz sz hcz hsz hok) hw [0, 1, 2] (by decide) rfl km_X1_takeBracket ki_X1_takeBracket q780 (run_recv (ci := 1) (T := TX1) (N := 8) hw 0 rfl rfl) rfl rfl hl.1 rfl dX1_takeSign_7) hw [0, 1, 2] (by decide) rfl (fun _ => rfl) (fun r_23 u_21 H locs hp_22 hw => ?_)
    have hw : WD g A s H locs [bO ra 1 (rF rd (nI u_21.2.2.1.length) (nI u_21.2.2.2.1.length) (nI u_21.2.2.2.2.1) (nI u_21.2.2.2.2.2.1) (nI u_21.2.2.2.2.2.2) ky), bI g (rd 1) 96 u_21.1, bI g (rd 2) 96 sz] := hw
    have hbk := hp_22
    exact s_iret cf hr hlk (u_21.1, sz, u_21.2) hw (by have e : sgnM c_ q = brkM q := if_pos c3; rw [e]; exact hbk) (Nat.le_of_ble_eq_true rfl) (Nat.le_of_ble_eq_true rfl) dX1_takeSign_10 hQ
