set_option maxRecDepth 100000 in
set_option maxHeartbeats 4000000 in
theorem m_nightGoes {l : Launch} {g : GG} {a : Nat} {ad : Nat → Nat} {fs : List Value} (hf : MF ad fs) {d cdf kf sf pl : DD} {ft : TXC} (hT : TxOK d kf sf cdf 0 ft) {n : Nat} (hn : d 0 = nI n) (hn10 : n ≤ 10) {ni : Nat} (hni : d 1 = nI ni) (hni2 : ni < 1000000) : Ct l g yX7_nightGoes cX7_nightGoes 3 (Option.none : Option Jvm.ClassFile.FieldType) 5 0 0 [.ref a] [bO a 7 fs, bI g (ad 0) 60 d, bI g (ad 5) 1344 cdf, bI g (ad 6) 14 kf, bI g (ad 7) 14 sf, bI g (ad 9) 96 pl] (QV g (fun (_ : DD) => True) (fun u => [bO a 7 fs, bI g (ad 0) 60 (nightF ft d), bI g (ad 5) 1344 cdf, bI g (ad 6) 14 kf, bI g (ad 7) 14 sf, bI g (ad 9) 96 u])) := by
  refine Ct.of (by decide) rfl ?_
  intro p e s m args below meth c A H locs ls Qf cf hr hlk hnm hQ hw hl
  have hx := cf.1
  have hb := cf.2.1
  have hml := cf.2.2.1
  have hown := cf.2.2.2.1
  have hts := cf.2.2.2.2
  have hw : WD g A s H locs [bO a 7 fs, bI g (ad 0) 60 d, bI g (ad 5) 1344 cdf, bI g (ad 6) 14 kf, bI g (ad 7) 14 sf, bI g (ad 9) 96 pl] := hw
  have hl : lv_has ls 3 [(0, .ref a)] := hl
  refine lv_aload_n hx hb dX7_nightGoes_0 rfl (lv_at hl 0 rfl) ?_
  refine s_callv (runV cf (m_roundGoes (d := d) (cdf := cdf) (kf := kf) (sf := sf) (pl := pl) (ft := ft) hf hT (n := n) hn hn10) hw [0, 1, 2, 3, 4, 5] (by decide) rfl km_X7_roundGoes ki_X7_roundGoes q1157 (run_recv (ci := 7) (T := TX7) (N := 39) hw 0 rfl rfl) rfl rfl hl.1 rfl dX7_nightGoes_1) hw [0, 1, 2, 3, 4, 5] (by decide) rfl (fun _ => rfl) (fun u_1 H locs hp_2 hw => ?_)
  have hw : WD g A s H locs [bO a 7 fs, bI g (ad 0) 60 (roundF ft d), bI g (ad 5) 1344 cdf, bI g (ad 6) 14 kf, bI g (ad 7) 14 sf, bI g (ad 9) 96 u_1] := hw
  refine lv_aload_n hx hb dX7_nightGoes_4 rfl (lv_at hl 0 rfl) ?_
  refine s_get (v := .ref (ad 0)) fb7 cf hw 0 rfl 0 rfl q921 (hf.2 0 rfl) dX7_nightGoes_5 ?_
  refine lv_iconst (v := 0) hx hb dX7_nightGoes_8 (by decide) ?_
  refine s_iald (j := 0) cf hw 1 rfl (rfl) (by decide) rfl dX7_nightGoes_9 ?_
  have hne : roundF ft d 0 = nI n := by rw [roundF_lo (by omega) (by omega) (by omega)]; exact hn
  have hni1 : roundF ft d 1 = nI ni := by rw [roundF_lo (by omega) (by omega) (by omega)]; exact hni
  have hTe : TxOK (roundF ft d) kf sf cdf 0 ft := hT.of (roundF_lo (by omega) (by omega) (by omega))
  refine lv_topr (y := nI n) (hne) ?_
  refine lv_if_le (tgt := 30) hx hb dX7_nightGoes_10 (by decide) (fun c10 => ?_) (fun c10 => ?_)
  · have hn0 : ¬ 0 < n := fun q => nI_nle q (by omega) c10
    have hw : WD g A s H locs [bO a 7 fs, bI g (ad 0) 60 (if 0 < n then deliverF ft (roundF ft d) (ni % n) else roundF ft d), bI g (ad 5) 1344 cdf, bI g (ad 6) 14 kf, bI g (ad 7) 14 sf, bI g (ad 9) 96 u_1] := by rw [if_neg hn0]; exact hw
    refine lv_iconst (v := 0) hx hb dX7_nightGoes_30 (by decide) ?_
    refine lv_istore_n (lv' := [(1, .int 0), (0, .ref a)]) hx hb dX7_nightGoes_31 rfl hl (by decide) rfl (fun ls hl => ?_)
    have L32 : ∀ (fu : Nat) (i : Nat) (pl : DD), (i ≤ n) → (n < i + fu) → ∀ (H : Heap) (locs : List Loc) (ls : Array Slot), WD g A s H locs [bO a 7 fs, bI g (ad 0) 60 (itn burnF i (if 0 < n then deliverF ft (roundF ft d) (ni % n) else roundF ft d)), bI g (ad 5) 1344 cdf, bI g (ad 6) 14 kf, bI g (ad 7) 14 sf, bI g (ad 9) 96 pl] → lv_has ls 3 [(0, .ref a), (1, .int (nI i))] → W p l e (rmx 5 0 0) s m args below meth c H locs 0 0 Qf (F0 m 32 ls []) := by
      intro fu
      induction fu with
      | zero => intro i pl hi hfu; exfalso; omega
      | succ fu ih32 =>
        intro i pl hi hfu H locs ls hw hl
        refine lv_iload_n hx hb dX7_nightGoes_32 rfl (lv_at hl 1 rfl) ?_
        refine lv_aload_n hx hb dX7_nightGoes_33 rfl (lv_at hl 0 rfl) ?_
        refine s_get (v := .ref (ad 0)) fb7 cf hw 0 rfl 0 rfl q921 (hf.2 0 rfl) dX7_nightGoes_34 ?_
        refine lv_iconst (v := 0) hx hb dX7_nightGoes_37 (by decide) ?_
        refine s_iald (j := 0) cf hw 1 rfl (rfl) (by decide) rfl dX7_nightGoes_38 ?_
        refine lv_icmp_ge (tgt := 98) hx hb dX7_nightGoes_39 (by decide) (fun c39 => ?_) (fun c39 => ?_)
        · have hn1 : (if 0 < n then deliverF ft (roundF ft d) (ni % n) else roundF ft d) 0 = nI n := by rcases Nat.lt_or_ge 0 n with q | q; rw [if_pos q, deliverF_lo (by omega) (by omega)]; exact hne; rw [if_neg (by omega)]; exact hne
          have hi2 : n = i := by rw [burnF_lo (by omega), hn1] at c39; have := nI_le_of (by omega) c39 (by omega); omega
          have hw : WD g A s H locs [bO a 7 fs, bI g (ad 0) 60 (itn burnF n (if 0 < n then deliverF ft (roundF ft d) (ni % n) else roundF ft d)), bI g (ad 5) 1344 cdf, bI g (ad 6) 14 kf, bI g (ad 7) 14 sf, bI g (ad 9) 96 pl] := by have q : itn burnF i (if 0 < n then deliverF ft (roundF ft d) (ni % n) else roundF ft d) = (itn burnF n (if 0 < n then deliverF ft (roundF ft d) (ni % n) else roundF ft d)) := (by rw [← hi2]); rw [← q]; exact hw
          have hy0 : drawF (itn burnF n (if 0 < n then deliverF ft (roundF ft d) (ni % n) else roundF ft d)) 0 = nI n := by rw [drawF_lo (by omega), burnF_lo (by omega)]; exact hn1
          refine lv_aload_n hx hb dX7_nightGoes_98 rfl (lv_at hl 0 rfl) ?_
          refine s_calli (runV cf (m_draw (d := itn burnF n (if 0 < n then deliverF ft (roundF ft d) (ni % n) else roundF ft d)) hf) hw [0, 1] (by decide) rfl km_X7_draw ki_X7_draw q1143 (run_recv (ci := 7) (T := TX7) (N := 39) hw 0 rfl rfl) rfl rfl hl.1 rfl dX7_nightGoes_99) hw [0, 1] (by decide) rfl (fun _ => rfl) (fun r_5 u_3 H locs hp_4 hw => ?_)
          have hw : WD g A s H locs [bO a 7 fs, bI g (ad 0) 60 (drawF (itn burnF n (if 0 < n then deliverF ft (roundF ft d) (ni % n) else roundF ft d))), bI g (ad 5) 1344 cdf, bI g (ad 6) 14 kf, bI g (ad 7) 14 sf, bI g (ad 9) 96 pl] := hw
          subst hp_4
          refine lv_bipush (v := 100) hx hb dX7_nightGoes_102 (by decide) ?_
          refine lv_irem hx hb dX7_nightGoes_104 (by decide) ?_
          refine lv_aload_n hx hb dX7_nightGoes_105 rfl (lv_at hl 0 rfl) ?_
          refine s_get (v := .ref (ad 0)) fb7 cf hw 0 rfl 0 rfl q921 (hf.2 0 rfl) dX7_nightGoes_106 ?_
          refine lv_iconst (v := 4) hx hb dX7_nightGoes_109 (by decide) ?_
          refine s_iald (j := 4) cf hw 1 rfl (rfl) (by decide) rfl dX7_nightGoes_110 ?_
          refine lv_icmp_ge (tgt := 148) hx hb dX7_nightGoes_111 (by decide) (fun c111 => ?_) (fun c111 => ?_)
          · have hw : WD g A s H locs [bO a 7 fs, bI g (ad 0) 60 (treadF (itn burnF n (if 0 < n then deliverF ft (roundF ft d) (ni % n) else roundF ft d))), bI g (ad 5) 1344 cdf, bI g (ad 6) 14 kf, bI g (ad 7) 14 sf, bI g (ad 9) 96 pl] := by have q : treadF (itn burnF n (if 0 < n then deliverF ft (roundF ft d) (ni % n) else roundF ft d)) = drawF (itn burnF n (if 0 < n then deliverF ft (roundF ft d) (ni % n) else roundF ft d)) := (by unfold treadF; simp only; rw [if_neg (fun z => Int32.not_le.mpr z.1 c111)]); rw [q]; exact hw
            refine lv_aload_n hx hb dX7_nightGoes_148 rfl (lv_at hl 0 rfl) ?_
            refine s_get (v := .ref (ad 0)) fb7 cf hw 0 rfl 0 rfl q921 (hf.2 0 rfl) dX7_nightGoes_149 ?_
            refine lv_iconst (v := 1) hx hb dX7_nightGoes_152 (by decide) ?_
            refine lv_dup2_11 hx hb dX7_nightGoes_153 rfl rfl ?_
            refine s_iald (j := 1) cf hw 1 rfl (rfl) (by decide) rfl dX7_nightGoes_154 ?_
            refine lv_iconst (v := 1) hx hb dX7_nightGoes_155 (by decide) ?_
            refine lv_iadd hx hb dX7_nightGoes_156 ?_
            refine s_iast (j := 1) cf hw 1 rfl (rfl) (by decide) rfl dX7_nightGoes_157 (fun H locs hw => ?_)
            have hw : WD g A s H locs [bO a 7 fs, bI g (ad 0) 60 (upd (treadF (itn burnF n (if 0 < n then deliverF ft (roundF ft d) (ni % n) else roundF ft d))) 1 (((treadF (itn burnF n (if 0 < n then deliverF ft (roundF ft d) (ni % n) else roundF ft d))) 1) + 1)), bI g (ad 5) 1344 cdf, bI g (ad 6) 14 kf, bI g (ad 7) 14 sf, bI g (ad 9) 96 pl] := hw
            exact s_vret cf hr hlk pl (by rw [nightF_eq hn hn10 hni hni2]; exact hw) trivial (Nat.le_of_ble_eq_true rfl) (Nat.le_of_ble_eq_true rfl) dX7_nightGoes_158 hQ
          · refine lv_aload_n hx hb dX7_nightGoes_114 rfl (lv_at hl 0 rfl) ?_
            refine s_get (v := .ref (ad 0)) fb7 cf hw 0 rfl 0 rfl q921 (hf.2 0 rfl) dX7_nightGoes_115 ?_
            refine lv_iconst (v := 0) hx hb dX7_nightGoes_118 (by decide) ?_
            refine s_iald (j := 0) cf hw 1 rfl (rfl) (by decide) rfl dX7_nightGoes_119 ?_
            refine lv_if_le (tgt := 148) hx hb dX7_nightGoes_120 (by decide) (fun c120 => ?_) (fun c120 => ?_)
            · have hw : WD g A s H locs [bO a 7 fs, bI g (ad 0) 60 (treadF (itn burnF n (if 0 < n then deliverF ft (roundF ft d) (ni % n) else roundF ft d))), bI g (ad 5) 1344 cdf, bI g (ad 6) 14 kf, bI g (ad 7) 14 sf, bI g (ad 9) 96 pl] := by have q : treadF (itn burnF n (if 0 < n then deliverF ft (roundF ft d) (ni % n) else roundF ft d)) = drawF (itn burnF n (if 0 < n then deliverF ft (roundF ft d) (ni % n) else roundF ft d)) := (by unfold treadF; simp only; rw [if_neg (fun z => Int32.not_le.mpr z.2 c120)]); rw [q]; exact hw
              refine lv_aload_n hx hb dX7_nightGoes_148 rfl (lv_at hl 0 rfl) ?_
              refine s_get (v := .ref (ad 0)) fb7 cf hw 0 rfl 0 rfl q921 (hf.2 0 rfl) dX7_nightGoes_149 ?_
              refine lv_iconst (v := 1) hx hb dX7_nightGoes_152 (by decide) ?_
              refine lv_dup2_11 hx hb dX7_nightGoes_153 rfl rfl ?_
              refine s_iald (j := 1) cf hw 1 rfl (rfl) (by decide) rfl dX7_nightGoes_154 ?_
              refine lv_iconst (v := 1) hx hb dX7_nightGoes_155 (by decide) ?_
              refine lv_iadd hx hb dX7_nightGoes_156 ?_
              refine s_iast (j := 1) cf hw 1 rfl (rfl) (by decide) rfl dX7_nightGoes_157 (fun H locs hw => ?_)
              have hw : WD g A s H locs [bO a 7 fs, bI g (ad 0) 60 (upd (treadF (itn burnF n (if 0 < n then deliverF ft (roundF ft d) (ni % n) else roundF ft d))) 1 (((treadF (itn burnF n (if 0 < n then deliverF ft (roundF ft d) (ni % n) else roundF ft d))) 1) + 1)), bI g (ad 5) 1344 cdf, bI g (ad 6) 14 kf, bI g (ad 7) 14 sf, bI g (ad 9) 96 pl] := hw
              exact s_vret cf hr hlk pl (by rw [nightF_eq hn hn10 hni hni2]; exact hw) trivial (Nat.le_of_ble_eq_true rfl) (Nat.le_of_ble_eq_true rfl) dX7_nightGoes_158 hQ
            · have hn0 : 0 < n := by rcases Nat.eq_zero_or_pos n with q | q; exact absurd (by rw [hy0, q]; decide) c120; exact q
              refine lv_aload_n hx hb dX7_nightGoes_123 rfl (lv_at hl 0 rfl) ?_
              refine s_calli (runV cf (m_draw (d := drawF (itn burnF n (if 0 < n then deliverF ft (roundF ft d) (ni % n) else roundF ft d))) hf) hw [0, 1] (by decide) rfl km_X7_draw ki_X7_draw q1143 (run_recv (ci := 7) (T := TX7) (N := 39) hw 0 rfl rfl) rfl rfl hl.1 rfl dX7_nightGoes_124) hw [0, 1] (by decide) rfl (fun _ => rfl) (fun r_8 u_6 H locs hp_7 hw => ?_)
              have hw : WD g A s H locs [bO a 7 fs, bI g (ad 0) 60 (drawF (drawF (itn burnF n (if 0 < n then deliverF ft (roundF ft d) (ni % n) else roundF ft d)))), bI g (ad 5) 1344 cdf, bI g (ad 6) 14 kf, bI g (ad 7) 14 sf, bI g (ad 9) 96 pl] := hw
              subst hp_7
              refine lv_aload_n hx hb dX7_nightGoes_127 rfl (lv_at hl 0 rfl) ?_
              refine s_get (v := .ref (ad 0)) fb7 cf hw 0 rfl 0 rfl q921 (hf.2 0 rfl) dX7_nightGoes_128 ?_
              refine lv_iconst (v := 0) hx hb dX7_nightGoes_131 (by decide) ?_
              refine s_iald (j := 0) cf hw 1 rfl (rfl) (by decide) rfl dX7_nightGoes_132 ?_
              have hy2 : drawF (drawF (itn burnF n (if 0 < n then deliverF ft (roundF ft d) (ni % n) else roundF ft d))) 0 = nI n := by rw [drawF_lo (by omega)]; exact hy0
              refine lv_irem hx hb dX7_nightGoes_133 (by rw [hy2]; exact nI_ne0 hn0 (by omega)) ?_
              obtain ⟨j, hjn, hj⟩ := dw_rem (drawF (drawF (itn burnF n (if 0 < n then deliverF ft (roundF ft d) (ni % n) else roundF ft d))) 8) hn0 (by omega)
              refine lv_topr (y := nI j) (by rw [hy2]; exact hj) ?_
              refine lv_istore_n (lv' := [(1, .int (nI j)), (0, .ref a)]) hx hb dX7_nightGoes_134 rfl hl (by decide) rfl (fun ls hl => ?_)
              refine lv_aload_n hx hb dX7_nightGoes_135 rfl (lv_at hl 1 rfl) ?_
              refine lv_iload_n hx hb dX7_nightGoes_136 rfl (lv_at hl 0 rfl) ?_
              refine lv_iconst (v := 2) hx hb dX7_nightGoes_137 (by decide) ?_
              refine lv_aload_n hx hb dX7_nightGoes_138 rfl (lv_at hl 1 rfl) ?_
              refine s_calli (runV cf (m_draw (d := drawF (drawF (itn burnF n (if 0 < n then deliverF ft (roundF ft d) (ni % n) else roundF ft d)))) hf) hw [0, 1] (by decide) rfl km_X7_draw ki_X7_draw q1143 (run_recv (ci := 7) (T := TX7) (N := 39) hw 0 rfl rfl) rfl rfl hl.1 rfl dX7_nightGoes_139) hw [0, 1] (by decide) rfl (fun _ => rfl) (fun r_11 u_9 H locs hp_10 hw => ?_)
              have hw : WD g A s H locs [bO a 7 fs, bI g (ad 0) 60 (drawF (drawF (drawF (itn burnF n (if 0 < n then deliverF ft (roundF ft d) (ni % n) else roundF ft d))))), bI g (ad 5) 1344 cdf, bI g (ad 6) 14 kf, bI g (ad 7) 14 sf, bI g (ad 9) 96 pl] := hw
              subst hp_10
              refine lv_bipush (v := 100) hx hb dX7_nightGoes_142 (by decide) ?_
              refine lv_irem hx hb dX7_nightGoes_144 (by decide) ?_
              refine s_callv (runV cf (m_sets (d := drawF (drawF (drawF (itn burnF n (if 0 < n then deliverF ft (roundF ft d) (ni % n) else roundF ft d))))) hf j 2 ((dwF (drawF (drawF (drawF (itn burnF n (if 0 < n then deliverF ft (roundF ft d) (ni % n) else roundF ft d)))) 8)) - (dwF (drawF (drawF (drawF (itn burnF n (if 0 < n then deliverF ft (roundF ft d) (ni % n) else roundF ft d)))) 8)) / 100 * 100) (by omega)) hw [0, 1] (by decide) rfl km_X7_sets ki_X7_sets q1051 (run_recv (ci := 7) (T := TX7) (N := 39) hw 0 rfl rfl) rfl rfl hl.1 rfl dX7_nightGoes_145) hw [0, 1] (by decide) rfl (fun _ => rfl) (fun u_12 H locs hp_13 hw => ?_)
              have hw : WD g A s H locs [bO a 7 fs, bI g (ad 0) 60 (upd (drawF (drawF (drawF (itn burnF n (if 0 < n then deliverF ft (roundF ft d) (ni % n) else roundF ft d))))) (10 + 5 * j + 2) ((dwF (drawF (drawF (drawF (itn burnF n (if 0 < n then deliverF ft (roundF ft d) (ni % n) else roundF ft d)))) 8)) - (dwF (drawF (drawF (drawF (itn burnF n (if 0 < n then deliverF ft (roundF ft d) (ni % n) else roundF ft d)))) 8)) / 100 * 100)), bI g (ad 5) 1344 cdf, bI g (ad 6) 14 kf, bI g (ad 7) 14 sf, bI g (ad 9) 96 pl] := hw
              have hw : WD g A s H locs [bO a 7 fs, bI g (ad 0) 60 (treadF (itn burnF n (if 0 < n then deliverF ft (roundF ft d) (ni % n) else roundF ft d))), bI g (ad 5) 1344 cdf, bI g (ad 6) 14 kf, bI g (ad 7) 14 sf, bI g (ad 9) 96 pl] := by have q : treadF (itn burnF n (if 0 < n then deliverF ft (roundF ft d) (ni % n) else roundF ft d)) = upd (drawF (drawF (drawF (itn burnF n (if 0 < n then deliverF ft (roundF ft d) (ni % n) else roundF ft d))))) (10 + 5 * j + 2) ((dwF (drawF (drawF (drawF (itn burnF n (if 0 < n then deliverF ft (roundF ft d) (ni % n) else roundF ft d)))) 8)) - (dwF (drawF (drawF (drawF (itn burnF n (if 0 < n then deliverF ft (roundF ft d) (ni % n) else roundF ft d)))) 8)) / 100 * 100) := (by unfold treadF; simp only; rw [if_pos ⟨Int32.not_le.mp c111, Int32.not_le.mp c120⟩, hy0, hj, nI_clamp (by omega)]; rfl); rw [q]; exact hw
              refine lv_aload_n hx hb dX7_nightGoes_148 rfl (lv_at hl 1 rfl) ?_
              refine s_get (v := .ref (ad 0)) fb7 cf hw 0 rfl 0 rfl q921 (hf.2 0 rfl) dX7_nightGoes_149 ?_
              refine lv_iconst (v := 1) hx hb dX7_nightGoes_152 (by decide) ?_
              refine lv_dup2_11 hx hb dX7_nightGoes_153 rfl rfl ?_
              refine s_iald (j := 1) cf hw 1 rfl (rfl) (by decide) rfl dX7_nightGoes_154 ?_
              refine lv_iconst (v := 1) hx hb dX7_nightGoes_155 (by decide) ?_
              refine lv_iadd hx hb dX7_nightGoes_156 ?_
              refine s_iast (j := 1) cf hw 1 rfl (rfl) (by decide) rfl dX7_nightGoes_157 (fun H locs hw => ?_)
              have hw : WD g A s H locs [bO a 7 fs, bI g (ad 0) 60 (upd (treadF (itn burnF n (if 0 < n then deliverF ft (roundF ft d) (ni % n) else roundF ft d))) 1 (((treadF (itn burnF n (if 0 < n then deliverF ft (roundF ft d) (ni % n) else roundF ft d))) 1) + 1)), bI g (ad 5) 1344 cdf, bI g (ad 6) 14 kf, bI g (ad 7) 14 sf, bI g (ad 9) 96 pl] := hw
              exact s_vret cf hr hlk pl (by rw [nightF_eq hn hn10 hni hni2]; exact hw) trivial (Nat.le_of_ble_eq_true rfl) (Nat.le_of_ble_eq_true rfl) dX7_nightGoes_158 hQ
        · have hn1 : (if 0 < n then deliverF ft (roundF ft d) (ni % n) else roundF ft d) 0 = nI n := by rcases Nat.lt_or_ge 0 n with q | q; rw [if_pos q, deliverF_lo (by omega) (by omega)]; exact hne; rw [if_neg (by omega)]; exact hne
          have hlt : i < n := by rw [burnF_lo (by omega), hn1] at c39; exact nI_lt_of (by omega) c39 (by omega)
          refine lv_aload_n hx hb dX7_nightGoes_42 rfl (lv_at hl 0 rfl) ?_
          refine lv_iload_n hx hb dX7_nightGoes_43 rfl (lv_at hl 1 rfl) ?_
          refine s_calli (runV cf (m_bends (d := itn burnF i (if 0 < n then deliverF ft (roundF ft d) (ni % n) else roundF ft d)) hf i (by omega)) hw [0, 1] (by decide) rfl km_X7_bends ki_X7_bends q1096 (run_recv (ci := 7) (T := TX7) (N := 39) hw 0 rfl rfl) rfl rfl hl.1 rfl dX7_nightGoes_44) hw [0, 1] (by decide) rfl (fun _ => rfl) (fun r_16 u_14 H locs hp_15 hw => ?_)
          have hw : WD g A s H locs [bO a 7 fs, bI g (ad 0) 60 (itn burnF i (if 0 < n then deliverF ft (roundF ft d) (ni % n) else roundF ft d)), bI g (ad 5) 1344 cdf, bI g (ad 6) 14 kf, bI g (ad 7) 14 sf, bI g (ad 9) 96 pl] := hw
          subst hp_15
          refine lv_istore_n (lv' := [(2, .int (bendsF (itn burnF i (if 0 < n then deliverF ft (roundF ft d) (ni % n) else roundF ft d)) i)), (0, .ref a), (1, .int (nI i))]) hx hb dX7_nightGoes_47 rfl hl (by decide) rfl (fun ls hl => ?_)
          refine lv_aload_n hx hb dX7_nightGoes_48 rfl (lv_at hl 1 rfl) ?_
          refine lv_iload_n hx hb dX7_nightGoes_49 rfl (lv_at hl 2 rfl) ?_
          refine lv_iconst (v := 3) hx hb dX7_nightGoes_50 (by decide) ?_
          refine lv_aload_n hx hb dX7_nightGoes_51 rfl (lv_at hl 1 rfl) ?_
          refine lv_iload_n hx hb dX7_nightGoes_52 rfl (lv_at hl 2 rfl) ?_
          refine lv_iconst (v := 3) hx hb dX7_nightGoes_53 (by decide) ?_
          refine s_calli (runV cf (m_of (d := itn burnF i (if 0 < n then deliverF ft (roundF ft d) (ni % n) else roundF ft d)) hf i 3 (by omega)) hw [0, 1] (by decide) rfl km_X7_of ki_X7_of q1076 (run_recv (ci := 7) (T := TX7) (N := 39) hw 0 rfl rfl) rfl rfl hl.1 rfl dX7_nightGoes_54) hw [0, 1] (by decide) rfl (fun _ => rfl) (fun r_19 u_17 H locs hp_18 hw => ?_)
          have hw : WD g A s H locs [bO a 7 fs, bI g (ad 0) 60 (itn burnF i (if 0 < n then deliverF ft (roundF ft d) (ni % n) else roundF ft d)), bI g (ad 5) 1344 cdf, bI g (ad 6) 14 kf, bI g (ad 7) 14 sf, bI g (ad 9) 96 pl] := hw
          subst hp_18
          refine lv_aload_n hx hb dX7_nightGoes_57 rfl (lv_at hl 1 rfl) ?_
          refine lv_iload_n hx hb dX7_nightGoes_58 rfl (lv_at hl 2 rfl) ?_
          refine s_calli (runV cf (m_burns (d := itn burnF i (if 0 < n then deliverF ft (roundF ft d) (ni % n) else roundF ft d)) hf i (by omega)) hw [0, 1] (by decide) rfl km_X7_burns ki_X7_burns q1100 (run_recv (ci := 7) (T := TX7) (N := 39) hw 0 rfl rfl) rfl rfl hl.1 rfl dX7_nightGoes_59) hw [0, 1] (by decide) rfl (fun _ => rfl) (fun r_22 u_20 H locs hp_21 hw => ?_)
          have hw : WD g A s H locs [bO a 7 fs, bI g (ad 0) 60 (itn burnF i (if 0 < n then deliverF ft (roundF ft d) (ni % n) else roundF ft d)), bI g (ad 5) 1344 cdf, bI g (ad 6) 14 kf, bI g (ad 7) 14 sf, bI g (ad 9) 96 pl] := hw
          subst hp_21
          refine lv_isub hx hb dX7_nightGoes_62 ?_
          refine lv_iconst (v := 0) hx hb dX7_nightGoes_63 (by decide) ?_
          refine lv_bipush (v := 99) hx hb dX7_nightGoes_64 (by decide) ?_
          refine s_calli (runS cf (m_held (((itn burnF i (if 0 < n then deliverF ft (roundF ft d) (ni % n) else roundF ft d)) (10 + 5 * i + 3)) - (burnsF (itn burnF i (if 0 < n then deliverF ft (roundF ft d) (ni % n) else roundF ft d)) i)) 0 99) hw [] (by decide) rfl km_X7_held ks_X7_held q1090 rfl rfl hl.1 rfl dX7_nightGoes_66) hw [] (by decide) rfl (fun _ => rfl) (fun r_25 u_23 H locs hp_24 hw => ?_)
          have hw : WD g A s H locs [bO a 7 fs, bI g (ad 0) 60 (itn burnF i (if 0 < n then deliverF ft (roundF ft d) (ni % n) else roundF ft d)), bI g (ad 5) 1344 cdf, bI g (ad 6) 14 kf, bI g (ad 7) 14 sf, bI g (ad 9) 96 pl] := hw
          subst hp_24
          refine s_callv (runV cf (m_sets (d := itn burnF i (if 0 < n then deliverF ft (roundF ft d) (ni % n) else roundF ft d)) hf i 3 (held (((itn burnF i (if 0 < n then deliverF ft (roundF ft d) (ni % n) else roundF ft d)) (10 + 5 * i + 3)) - (burnsF (itn burnF i (if 0 < n then deliverF ft (roundF ft d) (ni % n) else roundF ft d)) i)) 0 99) (by omega)) hw [0, 1] (by decide) rfl km_X7_sets ki_X7_sets q1051 (run_recv (ci := 7) (T := TX7) (N := 39) hw 0 rfl rfl) rfl rfl hl.1 rfl dX7_nightGoes_69) hw [0, 1] (by decide) rfl (fun _ => rfl) (fun u_26 H locs hp_27 hw => ?_)
          have hw : WD g A s H locs [bO a 7 fs, bI g (ad 0) 60 (upd (itn burnF i (if 0 < n then deliverF ft (roundF ft d) (ni % n) else roundF ft d)) (10 + 5 * i + 3) (held (((itn burnF i (if 0 < n then deliverF ft (roundF ft d) (ni % n) else roundF ft d)) (10 + 5 * i + 3)) - (burnsF (itn burnF i (if 0 < n then deliverF ft (roundF ft d) (ni % n) else roundF ft d)) i)) 0 99)), bI g (ad 5) 1344 cdf, bI g (ad 6) 14 kf, bI g (ad 7) 14 sf, bI g (ad 9) 96 pl] := hw
          refine lv_aload_n hx hb dX7_nightGoes_72 rfl (lv_at hl 1 rfl) ?_
          refine lv_iload_n hx hb dX7_nightGoes_73 rfl (lv_at hl 2 rfl) ?_
          refine lv_iconst (v := 1) hx hb dX7_nightGoes_74 (by decide) ?_
          refine lv_aload_n hx hb dX7_nightGoes_75 rfl (lv_at hl 1 rfl) ?_
          refine lv_iload_n hx hb dX7_nightGoes_76 rfl (lv_at hl 2 rfl) ?_
          refine lv_iconst (v := 1) hx hb dX7_nightGoes_77 (by decide) ?_
          refine s_calli (runV cf (m_of (d := upd (itn burnF i (if 0 < n then deliverF ft (roundF ft d) (ni % n) else roundF ft d)) (10 + 5 * i + 3) (held (((itn burnF i (if 0 < n then deliverF ft (roundF ft d) (ni % n) else roundF ft d)) (10 + 5 * i + 3)) - (burnsF (itn burnF i (if 0 < n then deliverF ft (roundF ft d) (ni % n) else roundF ft d)) i)) 0 99)) hf i 1 (by omega)) hw [0, 1] (by decide) rfl km_X7_of ki_X7_of q1076 (run_recv (ci := 7) (T := TX7) (N := 39) hw 0 rfl rfl) rfl rfl hl.1 rfl dX7_nightGoes_78) hw [0, 1] (by decide) rfl (fun _ => rfl) (fun r_30 u_28 H locs hp_29 hw => ?_)
          have hw : WD g A s H locs [bO a 7 fs, bI g (ad 0) 60 (upd (itn burnF i (if 0 < n then deliverF ft (roundF ft d) (ni % n) else roundF ft d)) (10 + 5 * i + 3) (held (((itn burnF i (if 0 < n then deliverF ft (roundF ft d) (ni % n) else roundF ft d)) (10 + 5 * i + 3)) - (burnsF (itn burnF i (if 0 < n then deliverF ft (roundF ft d) (ni % n) else roundF ft d)) i)) 0 99)), bI g (ad 5) 1344 cdf, bI g (ad 6) 14 kf, bI g (ad 7) 14 sf, bI g (ad 9) 96 pl] := hw
          subst hp_29
          refine lv_topr (y := itn burnF i (if 0 < n then deliverF ft (roundF ft d) (ni % n) else roundF ft d) (10 + 5 * i + 1)) (upd_ne (by omega)) ?_
          refine lv_iload_n hx hb dX7_nightGoes_81 rfl (lv_at hl 0 rfl) ?_
          refine lv_iadd hx hb dX7_nightGoes_82 ?_
          refine lv_iconst (v := 0) hx hb dX7_nightGoes_83 (by decide) ?_
          refine lv_bipush (v := 99) hx hb dX7_nightGoes_84 (by decide) ?_
          refine s_calli (runS cf (m_held ((itn burnF i (if 0 < n then deliverF ft (roundF ft d) (ni % n) else roundF ft d) (10 + 5 * i + 1)) + (bendsF (itn burnF i (if 0 < n then deliverF ft (roundF ft d) (ni % n) else roundF ft d)) i)) 0 99) hw [] (by decide) rfl km_X7_held ks_X7_held q1090 rfl rfl hl.1 rfl dX7_nightGoes_86) hw [] (by decide) rfl (fun _ => rfl) (fun r_33 u_31 H locs hp_32 hw => ?_)
          have hw : WD g A s H locs [bO a 7 fs, bI g (ad 0) 60 (upd (itn burnF i (if 0 < n then deliverF ft (roundF ft d) (ni % n) else roundF ft d)) (10 + 5 * i + 3) (held (((itn burnF i (if 0 < n then deliverF ft (roundF ft d) (ni % n) else roundF ft d)) (10 + 5 * i + 3)) - (burnsF (itn burnF i (if 0 < n then deliverF ft (roundF ft d) (ni % n) else roundF ft d)) i)) 0 99)), bI g (ad 5) 1344 cdf, bI g (ad 6) 14 kf, bI g (ad 7) 14 sf, bI g (ad 9) 96 pl] := hw
          subst hp_32
          refine s_callv (runV cf (m_sets (d := upd (itn burnF i (if 0 < n then deliverF ft (roundF ft d) (ni % n) else roundF ft d)) (10 + 5 * i + 3) (held (((itn burnF i (if 0 < n then deliverF ft (roundF ft d) (ni % n) else roundF ft d)) (10 + 5 * i + 3)) - (burnsF (itn burnF i (if 0 < n then deliverF ft (roundF ft d) (ni % n) else roundF ft d)) i)) 0 99)) hf i 1 (held ((itn burnF i (if 0 < n then deliverF ft (roundF ft d) (ni % n) else roundF ft d) (10 + 5 * i + 1)) + (bendsF (itn burnF i (if 0 < n then deliverF ft (roundF ft d) (ni % n) else roundF ft d)) i)) 0 99) (by omega)) hw [0, 1] (by decide) rfl km_X7_sets ki_X7_sets q1051 (run_recv (ci := 7) (T := TX7) (N := 39) hw 0 rfl rfl) rfl rfl hl.1 rfl dX7_nightGoes_89) hw [0, 1] (by decide) rfl (fun _ => rfl) (fun u_34 H locs hp_35 hw => ?_)
          have hw : WD g A s H locs [bO a 7 fs, bI g (ad 0) 60 (upd (upd (itn burnF i (if 0 < n then deliverF ft (roundF ft d) (ni % n) else roundF ft d)) (10 + 5 * i + 3) (held (((itn burnF i (if 0 < n then deliverF ft (roundF ft d) (ni % n) else roundF ft d)) (10 + 5 * i + 3)) - (burnsF (itn burnF i (if 0 < n then deliverF ft (roundF ft d) (ni % n) else roundF ft d)) i)) 0 99)) (10 + 5 * i + 1) (held ((itn burnF i (if 0 < n then deliverF ft (roundF ft d) (ni % n) else roundF ft d) (10 + 5 * i + 1)) + (bendsF (itn burnF i (if 0 < n then deliverF ft (roundF ft d) (ni % n) else roundF ft d)) i)) 0 99)), bI g (ad 5) 1344 cdf, bI g (ad 6) 14 kf, bI g (ad 7) 14 sf, bI g (ad 9) 96 pl] := hw
          refine lv_iinc (v := nI (i + 1)) (lv' := [(1, .int (nI (i + 1))), (2, .int (bendsF (itn burnF i (if 0 < n then deliverF ft (roundF ft d) (ni % n) else roundF ft d)) i)), (0, .ref a)]) hx hb dX7_nightGoes_92 hl (k := 2) rfl (nI_1 i) (by decide) rfl (fun ls hl => ?_)
          refine lv_goto (tgt := 32) hx hb dX7_nightGoes_95 (by decide) ?_
          exact ih32 (i + 1) pl (by omega) (by omega) _ _ _ hw (lv_sub hl [2, 0] rfl)
    exact L32 (n + 1) 0 u_1 (by omega) (by omega) _ _ _ hw (lv_sub hl [1, 0] rfl)
  · have hn0 : 0 < n := by rcases Nat.eq_zero_or_pos n with q | q; exact absurd (by rw [q]; decide) c10; exact q
    refine lv_aload_n hx hb dX7_nightGoes_13 rfl (lv_at hl 0 rfl) ?_
    refine lv_aload_n hx hb dX7_nightGoes_14 rfl (lv_at hl 0 rfl) ?_
    refine s_get (v := .ref (ad 0)) fb7 cf hw 0 rfl 0 rfl q921 (hf.2 0 rfl) dX7_nightGoes_15 ?_
    refine lv_iconst (v := 1) hx hb dX7_nightGoes_18 (by decide) ?_
    refine s_iald (j := 1) cf hw 1 rfl (rfl) (by decide) rfl dX7_nightGoes_19 ?_
    refine lv_aload_n hx hb dX7_nightGoes_20 rfl (lv_at hl 0 rfl) ?_
    refine s_get (v := .ref (ad 0)) fb7 cf hw 0 rfl 0 rfl q921 (hf.2 0 rfl) dX7_nightGoes_21 ?_
    refine lv_iconst (v := 0) hx hb dX7_nightGoes_24 (by decide) ?_
    refine s_iald (j := 0) cf hw 1 rfl (rfl) (by decide) rfl dX7_nightGoes_25 ?_
    refine lv_irem hx hb dX7_nightGoes_26 (by rw [hne]; exact nI_ne0 hn0 (by omega)) ?_
    have hmod := Nat.mod_lt ni hn0
    refine lv_topr (y := nI (ni % n)) (by rw [hni1, hne]; exact rem_nat (by omega) hn0 (by omega)) ?_
    refine s_callv (runV cf (m_delivers (d := roundF ft d) (cdf := cdf) (kf := kf) (sf := sf) (pl := u_1) (ft := ft) hf hTe (ni % n) (by omega)) hw [0, 1, 2, 3, 4, 5] (by decide) rfl km_X7_delivers ki_X7_delivers q1166 (run_recv (ci := 7) (T := TX7) (N := 39) hw 0 rfl rfl) rfl rfl hl.1 rfl dX7_nightGoes_27) hw [0, 1, 2, 3, 4, 5] (by decide) rfl (fun _ => rfl) (fun u_36 H locs hp_37 hw => ?_)
    have hw : WD g A s H locs [bO a 7 fs, bI g (ad 0) 60 (deliverF ft (roundF ft d) (ni % n)), bI g (ad 5) 1344 cdf, bI g (ad 6) 14 kf, bI g (ad 7) 14 sf, bI g (ad 9) 96 u_36] := hw
    have hw : WD g A s H locs [bO a 7 fs, bI g (ad 0) 60 (if 0 < n then deliverF ft (roundF ft d) (ni % n) else roundF ft d), bI g (ad 5) 1344 cdf, bI g (ad 6) 14 kf, bI g (ad 7) 14 sf, bI g (ad 9) 96 u_36] := by rw [if_pos hn0]; exact hw
    refine lv_iconst (v := 0) hx hb dX7_nightGoes_30 (by decide) ?_
    refine lv_istore_n (lv' := [(1, .int 0), (0, .ref a)]) hx hb dX7_nightGoes_31 rfl hl (by decide) rfl (fun ls hl => ?_)
    have L32 : ∀ (fu : Nat) (i : Nat) (pl : DD), (i ≤ n) → (n < i + fu) → ∀ (H : Heap) (locs : List Loc) (ls : Array Slot), WD g A s H locs [bO a 7 fs, bI g (ad 0) 60 (itn burnF i (if 0 < n then deliverF ft (roundF ft d) (ni % n) else roundF ft d)), bI g (ad 5) 1344 cdf, bI g (ad 6) 14 kf, bI g (ad 7) 14 sf, bI g (ad 9) 96 pl] → lv_has ls 3 [(0, .ref a), (1, .int (nI i))] → W p l e (rmx 5 0 0) s m args below meth c H locs 0 0 Qf (F0 m 32 ls []) := by
      intro fu
      induction fu with
      | zero => intro i pl hi hfu; exfalso; omega
      | succ fu ih32 =>
        intro i pl hi hfu H locs ls hw hl
        refine lv_iload_n hx hb dX7_nightGoes_32 rfl (lv_at hl 1 rfl) ?_
        refine lv_aload_n hx hb dX7_nightGoes_33 rfl (lv_at hl 0 rfl) ?_
        refine s_get (v := .ref (ad 0)) fb7 cf hw 0 rfl 0 rfl q921 (hf.2 0 rfl) dX7_nightGoes_34 ?_
        refine lv_iconst (v := 0) hx hb dX7_nightGoes_37 (by decide) ?_
        refine s_iald (j := 0) cf hw 1 rfl (rfl) (by decide) rfl dX7_nightGoes_38 ?_
        refine lv_icmp_ge (tgt := 98) hx hb dX7_nightGoes_39 (by decide) (fun c39 => ?_) (fun c39 => ?_)
        · have hn1 : (if 0 < n then deliverF ft (roundF ft d) (ni % n) else roundF ft d) 0 = nI n := by rcases Nat.lt_or_ge 0 n with q | q; rw [if_pos q, deliverF_lo (by omega) (by omega)]; exact hne; rw [if_neg (by omega)]; exact hne
          have hi2 : n = i := by rw [burnF_lo (by omega), hn1] at c39; have := nI_le_of (by omega) c39 (by omega); omega
          have hw : WD g A s H locs [bO a 7 fs, bI g (ad 0) 60 (itn burnF n (if 0 < n then deliverF ft (roundF ft d) (ni % n) else roundF ft d)), bI g (ad 5) 1344 cdf, bI g (ad 6) 14 kf, bI g (ad 7) 14 sf, bI g (ad 9) 96 pl] := by have q : itn burnF i (if 0 < n then deliverF ft (roundF ft d) (ni % n) else roundF ft d) = (itn burnF n (if 0 < n then deliverF ft (roundF ft d) (ni % n) else roundF ft d)) := (by rw [← hi2]); rw [← q]; exact hw
          have hy0 : drawF (itn burnF n (if 0 < n then deliverF ft (roundF ft d) (ni % n) else roundF ft d)) 0 = nI n := by rw [drawF_lo (by omega), burnF_lo (by omega)]; exact hn1
          refine lv_aload_n hx hb dX7_nightGoes_98 rfl (lv_at hl 0 rfl) ?_
          refine s_calli (runV cf (m_draw (d := itn burnF n (if 0 < n then deliverF ft (roundF ft d) (ni % n) else roundF ft d)) hf) hw [0, 1] (by decide) rfl km_X7_draw ki_X7_draw q1143 (run_recv (ci := 7) (T := TX7) (N := 39) hw 0 rfl rfl) rfl rfl hl.1 rfl dX7_nightGoes_99) hw [0, 1] (by decide) rfl (fun _ => rfl) (fun r_40 u_38 H locs hp_39 hw => ?_)
          have hw : WD g A s H locs [bO a 7 fs, bI g (ad 0) 60 (drawF (itn burnF n (if 0 < n then deliverF ft (roundF ft d) (ni % n) else roundF ft d))), bI g (ad 5) 1344 cdf, bI g (ad 6) 14 kf, bI g (ad 7) 14 sf, bI g (ad 9) 96 pl] := hw
          subst hp_39
          refine lv_bipush (v := 100) hx hb dX7_nightGoes_102 (by decide) ?_
          refine lv_irem hx hb dX7_nightGoes_104 (by decide) ?_
          refine lv_aload_n hx hb dX7_nightGoes_105 rfl (lv_at hl 0 rfl) ?_
          refine s_get (v := .ref (ad 0)) fb7 cf hw 0 rfl 0 rfl q921 (hf.2 0 rfl) dX7_nightGoes_106 ?_
          refine lv_iconst (v := 4) hx hb dX7_nightGoes_109 (by decide) ?_
          refine s_iald (j := 4) cf hw 1 rfl (rfl) (by decide) rfl dX7_nightGoes_110 ?_
          refine lv_icmp_ge (tgt := 148) hx hb dX7_nightGoes_111 (by decide) (fun c111 => ?_) (fun c111 => ?_)
          · have hw : WD g A s H locs [bO a 7 fs, bI g (ad 0) 60 (treadF (itn burnF n (if 0 < n then deliverF ft (roundF ft d) (ni % n) else roundF ft d))), bI g (ad 5) 1344 cdf, bI g (ad 6) 14 kf, bI g (ad 7) 14 sf, bI g (ad 9) 96 pl] := by have q : treadF (itn burnF n (if 0 < n then deliverF ft (roundF ft d) (ni % n) else roundF ft d)) = drawF (itn burnF n (if 0 < n then deliverF ft (roundF ft d) (ni % n) else roundF ft d)) := (by unfold treadF; simp only; rw [if_neg (fun z => Int32.not_le.mpr z.1 c111)]); rw [q]; exact hw
            refine lv_aload_n hx hb dX7_nightGoes_148 rfl (lv_at hl 0 rfl) ?_
            refine s_get (v := .ref (ad 0)) fb7 cf hw 0 rfl 0 rfl q921 (hf.2 0 rfl) dX7_nightGoes_149 ?_
            refine lv_iconst (v := 1) hx hb dX7_nightGoes_152 (by decide) ?_
            refine lv_dup2_11 hx hb dX7_nightGoes_153 rfl rfl ?_
            refine s_iald (j := 1) cf hw 1 rfl (rfl) (by decide) rfl dX7_nightGoes_154 ?_
            refine lv_iconst (v := 1) hx hb dX7_nightGoes_155 (by decide) ?_
            refine lv_iadd hx hb dX7_nightGoes_156 ?_
            refine s_iast (j := 1) cf hw 1 rfl (rfl) (by decide) rfl dX7_nightGoes_157 (fun H locs hw => ?_)
            have hw : WD g A s H locs [bO a 7 fs, bI g (ad 0) 60 (upd (treadF (itn burnF n (if 0 < n then deliverF ft (roundF ft d) (ni % n) else roundF ft d))) 1 (((treadF (itn burnF n (if 0 < n then deliverF ft (roundF ft d) (ni % n) else roundF ft d))) 1) + 1)), bI g (ad 5) 1344 cdf, bI g (ad 6) 14 kf, bI g (ad 7) 14 sf, bI g (ad 9) 96 pl] := hw
            exact s_vret cf hr hlk pl (by rw [nightF_eq hn hn10 hni hni2]; exact hw) trivial (Nat.le_of_ble_eq_true rfl) (Nat.le_of_ble_eq_true rfl) dX7_nightGoes_158 hQ
          · refine lv_aload_n hx hb dX7_nightGoes_114 rfl (lv_at hl 0 rfl) ?_
            refine s_get (v := .ref (ad 0)) fb7 cf hw 0 rfl 0 rfl q921 (hf.2 0 rfl) dX7_nightGoes_115 ?_
            refine lv_iconst (v := 0) hx hb dX7_nightGoes_118 (by decide) ?_
            refine s_iald (j := 0) cf hw 1 rfl (rfl) (by decide) rfl dX7_nightGoes_119 ?_
            refine lv_if_le (tgt := 148) hx hb dX7_nightGoes_120 (by decide) (fun c120 => ?_) (fun c120 => ?_)
            · have hw : WD g A s H locs [bO a 7 fs, bI g (ad 0) 60 (treadF (itn burnF n (if 0 < n then deliverF ft (roundF ft d) (ni % n) else roundF ft d))), bI g (ad 5) 1344 cdf, bI g (ad 6) 14 kf, bI g (ad 7) 14 sf, bI g (ad 9) 96 pl] := by have q : treadF (itn burnF n (if 0 < n then deliverF ft (roundF ft d) (ni % n) else roundF ft d)) = drawF (itn burnF n (if 0 < n then deliverF ft (roundF ft d) (ni % n) else roundF ft d)) := (by unfold treadF; simp only; rw [if_neg (fun z => Int32.not_le.mpr z.2 c120)]); rw [q]; exact hw
              refine lv_aload_n hx hb dX7_nightGoes_148 rfl (lv_at hl 0 rfl) ?_
              refine s_get (v := .ref (ad 0)) fb7 cf hw 0 rfl 0 rfl q921 (hf.2 0 rfl) dX7_nightGoes_149 ?_
              refine lv_iconst (v := 1) hx hb dX7_nightGoes_152 (by decide) ?_
              refine lv_dup2_11 hx hb dX7_nightGoes_153 rfl rfl ?_
              refine s_iald (j := 1) cf hw 1 rfl (rfl) (by decide) rfl dX7_nightGoes_154 ?_
              refine lv_iconst (v := 1) hx hb dX7_nightGoes_155 (by decide) ?_
              refine lv_iadd hx hb dX7_nightGoes_156 ?_
              refine s_iast (j := 1) cf hw 1 rfl (rfl) (by decide) rfl dX7_nightGoes_157 (fun H locs hw => ?_)
              have hw : WD g A s H locs [bO a 7 fs, bI g (ad 0) 60 (upd (treadF (itn burnF n (if 0 < n then deliverF ft (roundF ft d) (ni % n) else roundF ft d))) 1 (((treadF (itn burnF n (if 0 < n then deliverF ft (roundF ft d) (ni % n) else roundF ft d))) 1) + 1)), bI g (ad 5) 1344 cdf, bI g (ad 6) 14 kf, bI g (ad 7) 14 sf, bI g (ad 9) 96 pl] := hw
              exact s_vret cf hr hlk pl (by rw [nightF_eq hn hn10 hni hni2]; exact hw) trivial (Nat.le_of_ble_eq_true rfl) (Nat.le_of_ble_eq_true rfl) dX7_nightGoes_158 hQ
            · have hn0 : 0 < n := by rcases Nat.eq_zero_or_pos n with q | q; exact absurd (by rw [hy0, q]; decide) c120; exact q
              refine lv_aload_n hx hb dX7_nightGoes_123 rfl (lv_at hl 0 rfl) ?_
              refine s_calli (runV cf (m_draw (d := drawF (itn burnF n (if 0 < n then deliverF ft (roundF ft d) (ni % n) else roundF ft d))) hf) hw [0, 1] (by decide) rfl km_X7_draw ki_X7_draw q1143 (run_recv (ci := 7) (T := TX7) (N := 39) hw 0 rfl rfl) rfl rfl hl.1 rfl dX7_nightGoes_124) hw [0, 1] (by decide) rfl (fun _ => rfl) (fun r_43 u_41 H locs hp_42 hw => ?_)
              have hw : WD g A s H locs [bO a 7 fs, bI g (ad 0) 60 (drawF (drawF (itn burnF n (if 0 < n then deliverF ft (roundF ft d) (ni % n) else roundF ft d)))), bI g (ad 5) 1344 cdf, bI g (ad 6) 14 kf, bI g (ad 7) 14 sf, bI g (ad 9) 96 pl] := hw
              subst hp_42
              refine lv_aload_n hx hb dX7_nightGoes_127 rfl (lv_at hl 0 rfl) ?_
              refine s_get (v := .ref (ad 0)) fb7 cf hw 0 rfl 0 rfl q921 (hf.2 0 rfl) dX7_nightGoes_128 ?_
              refine lv_iconst (v := 0) hx hb dX7_nightGoes_131 (by decide) ?_
              refine s_iald (j := 0) cf hw 1 rfl (rfl) (by decide) rfl dX7_nightGoes_132 ?_
              have hy2 : drawF (drawF (itn burnF n (if 0 < n then deliverF ft (roundF ft d) (ni % n) else roundF ft d))) 0 = nI n := by rw [drawF_lo (by omega)]; exact hy0
              refine lv_irem hx hb dX7_nightGoes_133 (by rw [hy2]; exact nI_ne0 hn0 (by omega)) ?_
              obtain ⟨j, hjn, hj⟩ := dw_rem (drawF (drawF (itn burnF n (if 0 < n then deliverF ft (roundF ft d) (ni % n) else roundF ft d))) 8) hn0 (by omega)
              refine lv_topr (y := nI j) (by rw [hy2]; exact hj) ?_
              refine lv_istore_n (lv' := [(1, .int (nI j)), (0, .ref a)]) hx hb dX7_nightGoes_134 rfl hl (by decide) rfl (fun ls hl => ?_)
              refine lv_aload_n hx hb dX7_nightGoes_135 rfl (lv_at hl 1 rfl) ?_
              refine lv_iload_n hx hb dX7_nightGoes_136 rfl (lv_at hl 0 rfl) ?_
              refine lv_iconst (v := 2) hx hb dX7_nightGoes_137 (by decide) ?_
              refine lv_aload_n hx hb dX7_nightGoes_138 rfl (lv_at hl 1 rfl) ?_
              refine s_calli (runV cf (m_draw (d := drawF (drawF (itn burnF n (if 0 < n then deliverF ft (roundF ft d) (ni % n) else roundF ft d)))) hf) hw [0, 1] (by decide) rfl km_X7_draw ki_X7_draw q1143 (run_recv (ci := 7) (T := TX7) (N := 39) hw 0 rfl rfl) rfl rfl hl.1 rfl dX7_nightGoes_139) hw [0, 1] (by decide) rfl (fun _ => rfl) (fun r_46 u_44 H locs hp_45 hw => ?_)
              have hw : WD g A s H locs [bO a 7 fs, bI g (ad 0) 60 (drawF (drawF (drawF (itn burnF n (if 0 < n then deliverF ft (roundF ft d) (ni % n) else roundF ft d))))), bI g (ad 5) 1344 cdf, bI g (ad 6) 14 kf, bI g (ad 7) 14 sf, bI g (ad 9) 96 pl] := hw
              subst hp_45
              refine lv_bipush (v := 100) hx hb dX7_nightGoes_142 (by decide) ?_
              refine lv_irem hx hb dX7_nightGoes_144 (by decide) ?_
              refine s_callv (runV cf (m_sets (d := drawF (drawF (drawF (itn burnF n (if 0 < n then deliverF ft (roundF ft d) (ni % n) else roundF ft d))))) hf j 2 ((dwF (drawF (drawF (drawF (itn burnF n (if 0 < n then deliverF ft (roundF ft d) (ni % n) else roundF ft d)))) 8)) - (dwF (drawF (drawF (drawF (itn burnF n (if 0 < n then deliverF ft (roundF ft d) (ni % n) else roundF ft d)))) 8)) / 100 * 100) (by omega)) hw [0, 1] (by decide) rfl km_X7_sets ki_X7_sets q1051 (run_recv (ci := 7) (T := TX7) (N := 39) hw 0 rfl rfl) rfl rfl hl.1 rfl dX7_nightGoes_145) hw [0, 1] (by decide) rfl (fun _ => rfl) (fun u_47 H locs hp_48 hw => ?_)
              have hw : WD g A s H locs [bO a 7 fs, bI g (ad 0) 60 (upd (drawF (drawF (drawF (itn burnF n (if 0 < n then deliverF ft (roundF ft d) (ni % n) else roundF ft d))))) (10 + 5 * j + 2) ((dwF (drawF (drawF (drawF (itn burnF n (if 0 < n then deliverF ft (roundF ft d) (ni % n) else roundF ft d)))) 8)) - (dwF (drawF (drawF (drawF (itn burnF n (if 0 < n then deliverF ft (roundF ft d) (ni % n) else roundF ft d)))) 8)) / 100 * 100)), bI g (ad 5) 1344 cdf, bI g (ad 6) 14 kf, bI g (ad 7) 14 sf, bI g (ad 9) 96 pl] := hw
              have hw : WD g A s H locs [bO a 7 fs, bI g (ad 0) 60 (treadF (itn burnF n (if 0 < n then deliverF ft (roundF ft d) (ni % n) else roundF ft d))), bI g (ad 5) 1344 cdf, bI g (ad 6) 14 kf, bI g (ad 7) 14 sf, bI g (ad 9) 96 pl] := by have q : treadF (itn burnF n (if 0 < n then deliverF ft (roundF ft d) (ni % n) else roundF ft d)) = upd (drawF (drawF (drawF (itn burnF n (if 0 < n then deliverF ft (roundF ft d) (ni % n) else roundF ft d))))) (10 + 5 * j + 2) ((dwF (drawF (drawF (drawF (itn burnF n (if 0 < n then deliverF ft (roundF ft d) (ni % n) else roundF ft d)))) 8)) - (dwF (drawF (drawF (drawF (itn burnF n (if 0 < n then deliverF ft (roundF ft d) (ni % n) else roundF ft d)))) 8)) / 100 * 100) := (by unfold treadF; simp only; rw [if_pos ⟨Int32.not_le.mp c111, Int32.not_le.mp c120⟩, hy0, hj, nI_clamp (by omega)]; rfl); rw [q]; exact hw
              refine lv_aload_n hx hb dX7_nightGoes_148 rfl (lv_at hl 1 rfl) ?_
              refine s_get (v := .ref (ad 0)) fb7 cf hw 0 rfl 0 rfl q921 (hf.2 0 rfl) dX7_nightGoes_149 ?_
              refine lv_iconst (v := 1) hx hb dX7_nightGoes_152 (by decide) ?_
              refine lv_dup2_11 hx hb dX7_nightGoes_153 rfl rfl ?_
              refine s_iald (j := 1) cf hw 1 rfl (rfl) (by decide) rfl dX7_nightGoes_154 ?_
              refine lv_iconst (v := 1) hx hb dX7_nightGoes_155 (by decide) ?_
              refine lv_iadd hx hb dX7_nightGoes_156 ?_
              refine s_iast (j := 1) cf hw 1 rfl (rfl) (by decide) rfl dX7_nightGoes_157 (fun H locs hw => ?_)
              have hw : WD g A s H locs [bO a 7 fs, bI g (ad 0) 60 (upd (treadF (itn burnF n (if 0 < n then deliverF ft (roundF ft d) (ni % n) else roundF ft d))) 1 (((treadF (itn burnF n (if 0 < n then deliverF ft (roundF ft d) (ni % n) else roundF ft d))) 1) + 1)), bI g (ad 5) 1344 cdf, bI g (ad 6) 14 kf, bI g (ad 7) 14 sf, bI g (ad 9) 96 pl] := hw
              exact s_vret cf hr hlk pl (by rw [nightF_eq hn hn10 hni hni2]; exact hw) trivial (Nat.le_of_ble_eq_true rfl) (Nat.le_of_ble_eq_true rfl) dX7_nightGoes_158 hQ
        · have hn1 : (if 0 < n then deliverF ft (roundF ft d) (ni % n) else roundF ft d) 0 = nI n := by rcases Nat.lt_or_ge 0 n with q | q; rw [if_pos q, deliverF_lo (by omega) (by omega)]; exact hne; rw [if_neg (by omega)]; exact hne
          have hlt : i < n := by rw [burnF_lo (by omega), hn1] at c39; exact nI_lt_of (by omega) c39 (by omega)
          refine lv_aload_n hx hb dX7_nightGoes_42 rfl (lv_at hl 0 rfl) ?_
          refine lv_iload_n hx hb dX7_nightGoes_43 rfl (lv_at hl 1 rfl) ?_
          refine s_calli (runV cf (m_bends (d := itn burnF i (if 0 < n then deliverF ft (roundF ft d) (ni % n) else roundF ft d)) hf i (by omega)) hw [0, 1] (by decide) rfl km_X7_bends ki_X7_bends q1096 (run_recv (ci := 7) (T := TX7) (N := 39) hw 0 rfl rfl) rfl rfl hl.1 rfl dX7_nightGoes_44) hw [0, 1] (by decide) rfl (fun _ => rfl) (fun r_51 u_49 H locs hp_50 hw => ?_)
          have hw : WD g A s H locs [bO a 7 fs, bI g (ad 0) 60 (itn burnF i (if 0 < n then deliverF ft (roundF ft d) (ni % n) else roundF ft d)), bI g (ad 5) 1344 cdf, bI g (ad 6) 14 kf, bI g (ad 7) 14 sf, bI g (ad 9) 96 pl] := hw
          subst hp_50
          refine lv_istore_n (lv' := [(2, .int (bendsF (itn burnF i (if 0 < n then deliverF ft (roundF ft d) (ni % n) else roundF ft d)) i)), (0, .ref a), (1, .int (nI i))]) hx hb dX7_nightGoes_47 rfl hl (by decide) rfl (fun ls hl => ?_)
          refine lv_aload_n hx hb dX7_nightGoes_48 rfl (lv_at hl 1 rfl) ?_
          refine lv_iload_n hx hb dX7_nightGoes_49 rfl (lv_at hl 2 rfl) ?_
          refine lv_iconst (v := 3) hx hb dX7_nightGoes_50 (by decide) ?_
          refine lv_aload_n hx hb dX7_nightGoes_51 rfl (lv_at hl 1 rfl) ?_
          refine lv_iload_n hx hb dX7_nightGoes_52 rfl (lv_at hl 2 rfl) ?_
          refine lv_iconst (v := 3) hx hb dX7_nightGoes_53 (by decide) ?_
          refine s_calli (runV cf (m_of (d := itn burnF i (if 0 < n then deliverF ft (roundF ft d) (ni % n) else roundF ft d)) hf i 3 (by omega)) hw [0, 1] (by decide) rfl km_X7_of ki_X7_of q1076 (run_recv (ci := 7) (T := TX7) (N := 39) hw 0 rfl rfl) rfl rfl hl.1 rfl dX7_nightGoes_54) hw [0, 1] (by decide) rfl (fun _ => rfl) (fun r_54 u_52 H locs hp_53 hw => ?_)
          have hw : WD g A s H locs [bO a 7 fs, bI g (ad 0) 60 (itn burnF i (if 0 < n then deliverF ft (roundF ft d) (ni % n) else roundF ft d)), bI g (ad 5) 1344 cdf, bI g (ad 6) 14 kf, bI g (ad 7) 14 sf, bI g (ad 9) 96 pl] := hw
          subst hp_53
          refine lv_aload_n hx hb dX7_nightGoes_57 rfl (lv_at hl 1 rfl) ?_
          refine lv_iload_n hx hb dX7_nightGoes_58 rfl (lv_at hl 2 rfl) ?_
          refine s_calli (runV cf (m_burns (d := itn burnF i (if 0 < n then deliverF ft (roundF ft d) (ni % n) else roundF ft d)) hf i (by omega)) hw [0, 1] (by decide) rfl km_X7_burns ki_X7_burns q1100 (run_recv (ci := 7) (T := TX7) (N := 39) hw 0 rfl rfl) rfl rfl hl.1 rfl dX7_nightGoes_59) hw [0, 1] (by decide) rfl (fun _ => rfl) (fun r_57 u_55 H locs hp_56 hw => ?_)
          have hw : WD g A s H locs [bO a 7 fs, bI g (ad 0) 60 (itn burnF i (if 0 < n then deliverF ft (roundF ft d) (ni % n) else roundF ft d)), bI g (ad 5) 1344 cdf, bI g (ad 6) 14 kf, bI g (ad 7) 14 sf, bI g (ad 9) 96 pl] := hw
          subst hp_56
          refine lv_isub hx hb dX7_nightGoes_62 ?_
          refine lv_iconst (v := 0) hx hb dX7_nightGoes_63 (by decide) ?_
          refine lv_bipush (v := 99) hx hb dX7_nightGoes_64 (by decide) ?_
          refine s_calli (runS cf (m_held (((itn burnF i (if 0 < n then deliverF ft (roundF ft d) (ni % n) else roundF ft d)) (10 + 5 * i + 3)) - (burnsF (itn burnF i (if 0 < n then deliverF ft (roundF ft d) (ni % n) else roundF ft d)) i)) 0 99) hw [] (by decide) rfl km_X7_held ks_X7_held q1090 rfl rfl hl.1 rfl dX7_nightGoes_66) hw [] (by decide) rfl (fun _ => rfl) (fun r_60 u_58 H locs hp_59 hw => ?_)
          have hw : WD g A s H locs [bO a 7 fs, bI g (ad 0) 60 (itn burnF i (if 0 < n then deliverF ft (roundF ft d) (ni % n) else roundF ft d)), bI g (ad 5) 1344 cdf, bI g (ad 6) 14 kf, bI g (ad 7) 14 sf, bI g (ad 9) 96 pl] := hw
          subst hp_59
          refine s_callv (runV cf (m_sets (d := itn burnF i (if 0 < n then deliverF ft (roundF ft d) (ni % n) else roundF ft d)) hf i 3 (held (((itn burnF i (if 0 < n then deliverF ft (roundF ft d) (ni % n) else roundF ft d)) (10 + 5 * i + 3)) - (burnsF (itn burnF i (if 0 < n then deliverF ft (roundF ft d) (ni % n) else roundF ft d)) i)) 0 99) (by omega)) hw [0, 1] (by decide) rfl km_X7_sets ki_X7_sets q1051 (run_recv (ci := 7) (T := TX7) (N := 39) hw 0 rfl rfl) rfl rfl hl.1 rfl dX7_nightGoes_69) hw [0, 1] (by decide) rfl (fun _ => rfl) (fun u_61 H locs hp_62 hw => ?_)
          have hw : WD g A s H locs [bO a 7 fs, bI g (ad 0) 60 (upd (itn burnF i (if 0 < n then deliverF ft (roundF ft d) (ni % n) else roundF ft d)) (10 + 5 * i + 3) (held (((itn burnF i (if 0 < n then deliverF ft (roundF ft d) (ni % n) else roundF ft d)) (10 + 5 * i + 3)) - (burnsF (itn burnF i (if 0 < n then deliverF ft (roundF ft d) (ni % n) else roundF ft d)) i)) 0 99)), bI g (ad 5) 1344 cdf, bI g (ad 6) 14 kf, bI g (ad 7) 14 sf, bI g (ad 9) 96 pl] := hw
          refine lv_aload_n hx hb dX7_nightGoes_72 rfl (lv_at hl 1 rfl) ?_
          refine lv_iload_n hx hb dX7_nightGoes_73 rfl (lv_at hl 2 rfl) ?_
          refine lv_iconst (v := 1) hx hb dX7_nightGoes_74 (by decide) ?_
          refine lv_aload_n hx hb dX7_nightGoes_75 rfl (lv_at hl 1 rfl) ?_
          refine lv_iload_n hx hb dX7_nightGoes_76 rfl (lv_at hl 2 rfl) ?_
          refine lv_iconst (v := 1) hx hb dX7_nightGoes_77 (by decide) ?_
          refine s_calli (runV cf (m_of (d := upd (itn burnF i (if 0 < n then deliverF ft (roundF ft d) (ni % n) else roundF ft d)) (10 + 5 * i + 3) (held (((itn burnF i (if 0 < n then deliverF ft (roundF ft d) (ni % n) else roundF ft d)) (10 + 5 * i + 3)) - (burnsF (itn burnF i (if 0 < n then deliverF ft (roundF ft d) (ni % n) else roundF ft d)) i)) 0 99)) hf i 1 (by omega)) hw [0, 1] (by decide) rfl km_X7_of ki_X7_of q1076 (run_recv (ci := 7) (T := TX7) (N := 39) hw 0 rfl rfl) rfl rfl hl.1 rfl dX7_nightGoes_78) hw [0, 1] (by decide) rfl (fun _ => rfl) (fun r_65 u_63 H locs hp_64 hw => ?_)
          have hw : WD g A s H locs [bO a 7 fs, bI g (ad 0) 60 (upd (itn burnF i (if 0 < n then deliverF ft (roundF ft d) (ni % n) else roundF ft d)) (10 + 5 * i + 3) (held (((itn burnF i (if 0 < n then deliverF ft (roundF ft d) (ni % n) else roundF ft d)) (10 + 5 * i + 3)) - (burnsF (itn burnF i (if 0 < n then deliverF ft (roundF ft d) (ni % n) else roundF ft d)) i)) 0 99)), bI g (ad 5) 1344 cdf, bI g (ad 6) 14 kf, bI g (ad 7) 14 sf, bI g (ad 9) 96 pl] := hw
          subst hp_64
          refine lv_topr (y := itn burnF i (if 0 < n then deliverF ft (roundF ft d) (ni % n) else roundF ft d) (10 + 5 * i + 1)) (upd_ne (by omega)) ?_
          refine lv_iload_n hx hb dX7_nightGoes_81 rfl (lv_at hl 0 rfl) ?_
          refine lv_iadd hx hb dX7_nightGoes_82 ?_
          refine lv_iconst (v := 0) hx hb dX7_nightGoes_83 (by decide) ?_
          refine lv_bipush (v := 99) hx hb dX7_nightGoes_84 (by decide) ?_
          refine s_calli (runS cf (m_held ((itn burnF i (if 0 < n then deliverF ft (roundF ft d) (ni % n) else roundF ft d) (10 + 5 * i + 1)) + (bendsF (itn burnF i (if 0 < n then deliverF ft (roundF ft d) (ni % n) else roundF ft d)) i)) 0 99) hw [] (by decide) rfl km_X7_held ks_X7_held q1090 rfl rfl hl.1 rfl dX7_nightGoes_86) hw [] (by decide) rfl (fun _ => rfl) (fun r_68 u_66 H locs hp_67 hw => ?_)
          have hw : WD g A s H locs [bO a 7 fs, bI g (ad 0) 60 (upd (itn burnF i (if 0 < n then deliverF ft (roundF ft d) (ni % n) else roundF ft d)) (10 + 5 * i + 3) (held (((itn burnF i (if 0 < n then deliverF ft (roundF ft d) (ni % n) else roundF ft d)) (10 + 5 * i + 3)) - (burnsF (itn burnF i (if 0 < n then deliverF ft (roundF ft d) (ni % n) else roundF ft d)) i)) 0 99)), bI g (ad 5) 1344 cdf, bI g (ad 6) 14 kf, bI g (ad 7) 14 sf, bI g (ad 9) 96 pl] := hw
          subst hp_67
          refine s_callv (runV cf (m_sets (d := upd (itn burnF i (if 0 < n then deliverF ft (roundF ft d) (ni % n) else roundF ft d)) (10 + 5 * i + 3) (held (((itn burnF i (if 0 < n then deliverF ft (roundF ft d) (ni % n) else roundF ft d)) (10 + 5 * i + 3)) - (burnsF (itn burnF i (if 0 < n then deliverF ft (roundF ft d) (ni % n) else roundF ft d)) i)) 0 99)) hf i 1 (held ((itn burnF i (if 0 < n then deliverF ft (roundF ft d) (ni % n) else roundF ft d) (10 + 5 * i + 1)) + (bendsF (itn burnF i (if 0 < n then deliverF ft (roundF ft d) (ni % n) else roundF ft d)) i)) 0 99) (by omega)) hw [0, 1] (by decide) rfl km_X7_sets ki_X7_sets q1051 (run_recv (ci := 7) (T := TX7) (N := 39) hw 0 rfl rfl) rfl rfl hl.1 rfl dX7_nightGoes_89) hw [0, 1] (by decide) rfl (fun _ => rfl) (fun u_69 H locs hp_70 hw => ?_)
          have hw : WD g A s H locs [bO a 7 fs, bI g (ad 0) 60 (upd (upd (itn burnF i (if 0 < n then deliverF ft (roundF ft d) (ni % n) else roundF ft d)) (10 + 5 * i + 3) (held (((itn burnF i (if 0 < n then deliverF ft (roundF ft d) (ni % n) else roundF ft d)) (10 + 5 * i + 3)) - (burnsF (itn burnF i (if 0 < n then deliverF ft (roundF ft d) (ni % n) else roundF ft d)) i)) 0 99)) (10 + 5 * i + 1) (held ((itn burnF i (if 0 < n then deliverF ft (roundF ft d) (ni % n) else roundF ft d) (10 + 5 * i + 1)) + (bendsF (itn burnF i (if 0 < n then deliverF ft (roundF ft d) (ni % n) else roundF ft d)) i)) 0 99)), bI g (ad 5) 1344 cdf, bI g (ad 6) 14 kf, bI g (ad 7) 14 sf, bI g (ad 9) 96 pl] := hw
          refine lv_iinc (v := nI (i + 1)) (lv' := [(1, .int (nI (i + 1))), (2, .int (bendsF (itn burnF i (if 0 < n then deliverF ft (roundF ft d) (ni % n) else roundF ft d)) i)), (0, .ref a)]) hx hb dX7_nightGoes_92 hl (k := 2) rfl (nI_1 i) (by decide) rfl (fun ls hl => ?_)
          refine lv_goto (tgt := 32) hx hb dX7_nightGoes_95 (by decide) ?_
          exact ih32 (i + 1) pl (by omega) (by omega) _ _ _ hw (lv_sub hl [2, 0] rfl)
    exact L32 (n + 1) 0 u_36 (by omega) (by omega) _ _ _ hw (lv_sub hl [1, 0] rfl)
set_option maxRecDepth 100000 in
set_option maxHeartbeats 4000000 in
theorem m_nightsGo {l : Launch} {g : GG} {a : Nat} {ad : Nat → Nat} {fs : List Value} (hf : MF ad fs) {d cdf kf sf pl : DD} {ft : TXC} (hT : TxOK d kf sf cdf 0 ft) {n : Nat} (hn : d 0 = nI n) (hn10 : n ≤ 10) {ni : Nat} (hni : d 1 = nI ni)  (k : Nat) (hk : ni + k < 1000000) : Ct l g yX7_nightsGo cX7_nightsGo 3 (Option.none : Option Jvm.ClassFile.FieldType) 6 0 0 [.ref a, .int (nI k)] [bO a 7 fs, bI g (ad 0) 60 d, bI g (ad 5) 1344 cdf, bI g (ad 6) 14 kf, bI g (ad 7) 14 sf, bI g (ad 9) 96 pl] (QV g (fun (_ : DD) => True) (fun u => [bO a 7 fs, bI g (ad 0) 60 (nightsF ft k d), bI g (ad 5) 1344 cdf, bI g (ad 6) 14 kf, bI g (ad 7) 14 sf, bI g (ad 9) 96 u])) := by
  refine Ct.of (by decide) rfl ?_
  intro p e s m args below meth c A H locs ls Qf cf hr hlk hnm hQ hw hl
  have hx := cf.1
  have hb := cf.2.1
  have hml := cf.2.2.1
  have hown := cf.2.2.2.1
  have hts := cf.2.2.2.2
  have hw : WD g A s H locs [bO a 7 fs, bI g (ad 0) 60 d, bI g (ad 5) 1344 cdf, bI g (ad 6) 14 kf, bI g (ad 7) 14 sf, bI g (ad 9) 96 pl] := hw
  have hl : lv_has ls 3 [(0, .ref a), (1, .int (nI k))] := hl
  refine lv_iconst (v := 0) hx hb dX7_nightsGo_0 (by decide) ?_
  refine lv_istore_n (lv' := [(2, .int 0), (0, .ref a), (1, .int (nI k))]) hx hb dX7_nightsGo_1 rfl hl (by decide) rfl (fun ls hl => ?_)
  have L2 : ∀ (fu : Nat) (i : Nat) (pl : DD), (i ≤ k) → (k < i + fu) → ∀ (H : Heap) (locs : List Loc) (ls : Array Slot), WD g A s H locs [bO a 7 fs, bI g (ad 0) 60 (nightsF ft i d), bI g (ad 5) 1344 cdf, bI g (ad 6) 14 kf, bI g (ad 7) 14 sf, bI g (ad 9) 96 pl] → lv_has ls 3 [(0, .ref a), (1, .int (nI k)), (2, .int (nI i))] → W p l e (rmx 6 0 0) s m args below meth c H locs 0 0 Qf (F0 m 2 ls []) := by
    intro fu
    induction fu with
    | zero => intro i pl hi hfu; exfalso; omega
    | succ fu ih2 =>
      intro i pl hi hfu H locs ls hw hl
      refine lv_iload_n hx hb dX7_nightsGo_2 rfl (lv_at hl 2 rfl) ?_
      refine lv_iload_n hx hb dX7_nightsGo_3 rfl (lv_at hl 1 rfl) ?_
      refine lv_icmp_ge (tgt := 17) hx hb dX7_nightsGo_4 (by decide) (fun c4 => ?_) (fun c4 => ?_)
      · have hi2 : k = i := by have := nI_le_of (by omega) c4 (by omega); omega
        subst hi2
        exact s_vret cf hr hlk pl hw trivial (Nat.le_of_ble_eq_true rfl) (Nat.le_of_ble_eq_true rfl) dX7_nightsGo_17 hQ
      · have hlt : i < k := nI_lt_of (by omega) c4 (by omega)
        refine lv_aload_n hx hb dX7_nightsGo_7 rfl (lv_at hl 0 rfl) ?_
        refine s_callv (runV cf (m_nightGoes (d := nightsF ft i d) (cdf := cdf) (kf := kf) (sf := sf) (pl := pl) (ft := ft) hf (hT.of (nightsF_lo (by omega) (by omega) (by omega) (by omega) (by omega) (by omega))) (n := n) (by rw [nightsF_lo (by omega) (by omega) (by omega) (by omega) (by omega) (by omega)]; exact hn) hn10 (nightsF_1 hni i) (by omega)) hw [0, 1, 2, 3, 4, 5] (by decide) rfl km_X7_nightGoes ki_X7_nightGoes q1178 (run_recv (ci := 7) (T := TX7) (N := 39) hw 0 rfl rfl) rfl rfl hl.1 rfl dX7_nightsGo_8) hw [0, 1, 2, 3, 4, 5] (by decide) rfl (fun _ => rfl) (fun u_1 H locs hp_2 hw => ?_)
        have hw : WD g A s H locs [bO a 7 fs, bI g (ad 0) 60 (nightF ft (nightsF ft i d)), bI g (ad 5) 1344 cdf, bI g (ad 6) 14 kf, bI g (ad 7) 14 sf, bI g (ad 9) 96 u_1] := hw
        refine lv_iinc (v := nI (i + 1)) (lv' := [(2, .int (nI (i + 1))), (0, .ref a), (1, .int (nI k))]) hx hb dX7_nightsGo_11 hl (k := 2) rfl (nI_1 i) (by decide) rfl (fun ls hl => ?_)
        refine lv_goto (tgt := 2) hx hb dX7_nightsGo_14 (by decide) ?_
        exact ih2 (i + 1) u_1 (by omega) (by omega) _ _ _ hw (lv_sub hl [1, 2, 0] rfl)
  exact L2 (k + 1) 0 pl (by omega) (by omega) _ _ _ hw (lv_sub hl [1, 2, 0] rfl)
set_option maxRecDepth 100000 in
set_option maxHeartbeats 4000000 in
theorem m_sumOf {l : Launch} {g : GG} {a : Nat} {ad : Nat → Nat} {fs : List Value} (hf : MF ad fs) {d : DD} {n : Nat} (hn : d 0 = nI n) (hn10 : n ≤ 10) (w : Nat) (hw5 : w < 5) : Ct l g yX7_sumOf cX7_sumOf 4 (Option.some Jvm.ClassFile.FieldType.int) 1 0 0 [.ref a, .int (nI w)] [bO a 7 fs, bI g (ad 0) 60 d] (QI g (fun r (_ : Unit) => r = sumF w d) (fun _ => [bO a 7 fs, bI g (ad 0) 60 d])) := by
  refine Ct.of (by decide) rfl ?_
  intro p e s m args below meth c A H locs ls Qf cf hr hlk hnm hQ hw hl
  have hx := cf.1
  have hb := cf.2.1
  have hml := cf.2.2.1
  have hown := cf.2.2.2.1
  have hts := cf.2.2.2.2
  have hw : WD g A s H locs [bO a 7 fs, bI g (ad 0) 60 d] := hw
  have hl : lv_has ls 4 [(0, .ref a), (1, .int (nI w))] := hl
  refine lv_iconst (v := 0) hx hb dX7_sumOf_0 (by decide) ?_
  refine lv_istore_n (lv' := [(2, .int 0), (0, .ref a), (1, .int (nI w))]) hx hb dX7_sumOf_1 rfl hl (by decide) rfl (fun ls hl => ?_)
  refine lv_iconst (v := 0) hx hb dX7_sumOf_2 (by decide) ?_
  refine lv_istore_n (lv' := [(3, .int 0), (2, .int 0), (0, .ref a), (1, .int (nI w))]) hx hb dX7_sumOf_3 rfl hl (by decide) rfl (fun ls hl => ?_)
  have L4 : ∀ (fu : Nat) (i : Nat), (i ≤ n) → (n < i + fu) → ∀ (H : Heap) (locs : List Loc) (ls : Array Slot), WD g A s H locs [bO a 7 fs, bI g (ad 0) 60 d] → lv_has ls 4 [(0, .ref a), (1, .int (nI w)), (2, .int (itn (fun h x => x + d (10 + 5 * h + w)) i 0)), (3, .int (nI i))] → W p l e (rmx 1 0 0) s m args below meth c H locs 0 0 Qf (F0 m 4 ls []) := by
    intro fu
    induction fu with
    | zero => intro i hi hfu; exfalso; omega
    | succ fu ih4 =>
      intro i hi hfu H locs ls hw hl
      refine lv_iload_n hx hb dX7_sumOf_4 rfl (lv_at hl 3 rfl) ?_
      refine lv_aload_n hx hb dX7_sumOf_5 rfl (lv_at hl 0 rfl) ?_
      refine s_get (v := .ref (ad 0)) fb7 cf hw 0 rfl 0 rfl q921 (hf.2 0 rfl) dX7_sumOf_6 ?_
      refine lv_iconst (v := 0) hx hb dX7_sumOf_9 (by decide) ?_
      refine s_iald (j := 0) cf hw 1 rfl (rfl) (by decide) rfl dX7_sumOf_10 ?_
      refine lv_icmp_ge (tgt := 29) hx hb dX7_sumOf_11 (by decide) (fun c11 => ?_) (fun c11 => ?_)
      · have hi2 : n = i := by rw [hn] at c11; have := nI_le_of (by omega) c11 (by omega); omega
        subst hi2
        refine lv_iload_n hx hb dX7_sumOf_29 rfl (lv_at hl 2 rfl) ?_
        exact s_iret cf hr hlk () hw (by unfold sumF; rw [nH_of hn hn10]) (Nat.le_of_ble_eq_true rfl) (Nat.le_of_ble_eq_true rfl) dX7_sumOf_30 hQ
      · have hlt : i < n := by rw [hn] at c11; exact nI_lt_of (by omega) c11 (by omega)
        refine lv_iload_n hx hb dX7_sumOf_14 rfl (lv_at hl 2 rfl) ?_
        refine lv_aload_n hx hb dX7_sumOf_15 rfl (lv_at hl 0 rfl) ?_
        refine lv_iload_n hx hb dX7_sumOf_16 rfl (lv_at hl 3 rfl) ?_
        refine lv_iload_n hx hb dX7_sumOf_17 rfl (lv_at hl 1 rfl) ?_
        refine s_calli (runV cf (m_of (d := d) hf i w (by omega)) hw [0, 1] (by decide) rfl km_X7_of ki_X7_of q1076 (run_recv (ci := 7) (T := TX7) (N := 39) hw 0 rfl rfl) rfl rfl hl.1 rfl dX7_sumOf_18) hw [0, 1] (by decide) rfl (fun _ => rfl) (fun r_3 u_1 H locs hp_2 hw => ?_)
        have hw : WD g A s H locs [bO a 7 fs, bI g (ad 0) 60 d] := hw
        subst hp_2
        refine lv_iadd hx hb dX7_sumOf_21 ?_
        refine lv_istore_n (lv' := [(2, .int ((itn (fun h x => x + d (10 + 5 * h + w)) i 0) + (d (10 + 5 * i + w)))), (0, .ref a), (1, .int (nI w)), (3, .int (nI i))]) hx hb dX7_sumOf_22 rfl hl (by decide) rfl (fun ls hl => ?_)
        refine lv_iinc (v := nI (i + 1)) (lv' := [(3, .int (nI (i + 1))), (2, .int ((itn (fun h x => x + d (10 + 5 * h + w)) i 0) + (d (10 + 5 * i + w)))), (0, .ref a), (1, .int (nI w))]) hx hb dX7_sumOf_23 hl (k := 3) rfl (nI_1 i) (by decide) rfl (fun ls hl => ?_)
        refine lv_goto (tgt := 4) hx hb dX7_sumOf_26 (by decide) ?_
        exact ih4 (i + 1) (by omega) (by omega) _ _ _ hw (lv_sub hl [2, 3, 1, 0] rfl)
  exact L4 (n + 1) 0 (by omega) (by omega) _ _ _ hw (lv_sub hl [2, 3, 1, 0] rfl)
set_option maxRecDepth 100000 in
set_option maxHeartbeats 4000000 in
theorem m_coldOnes {l : Launch} {g : GG} {a : Nat} {ad : Nat → Nat} {fs : List Value} (hf : MF ad fs) {d : DD} {n : Nat} (hn : d 0 = nI n) (hn10 : n ≤ 10) : Ct l g yX7_coldOnes cX7_coldOnes 3 (Option.some Jvm.ClassFile.FieldType.int) 1 0 0 [.ref a] [bO a 7 fs, bI g (ad 0) 60 d] (QI g (fun r (_ : Unit) => r = coldF d) (fun _ => [bO a 7 fs, bI g (ad 0) 60 d])) := by
  refine Ct.of (by decide) rfl ?_
  intro p e s m args below meth c A H locs ls Qf cf hr hlk hnm hQ hw hl
  have hx := cf.1
  have hb := cf.2.1
  have hml := cf.2.2.1
  have hown := cf.2.2.2.1
  have hts := cf.2.2.2.2
  have hw : WD g A s H locs [bO a 7 fs, bI g (ad 0) 60 d] := hw
  have hl : lv_has ls 3 [(0, .ref a)] := hl
  refine lv_iconst (v := 0) hx hb dX7_coldOnes_0 (by decide) ?_
  refine lv_istore_n (lv' := [(1, .int 0), (0, .ref a)]) hx hb dX7_coldOnes_1 rfl hl (by decide) rfl (fun ls hl => ?_)
  refine lv_iconst (v := 0) hx hb dX7_coldOnes_2 (by decide) ?_
  refine lv_istore_n (lv' := [(2, .int 0), (1, .int 0), (0, .ref a)]) hx hb dX7_coldOnes_3 rfl hl (by decide) rfl (fun ls hl => ?_)
  have L4 : ∀ (fu : Nat) (i : Nat), (i ≤ n) → (n < i + fu) → ∀ (H : Heap) (locs : List Loc) (ls : Array Slot), WD g A s H locs [bO a 7 fs, bI g (ad 0) 60 d] → lv_has ls 3 [(0, .ref a), (1, .int (itn (fun h x => x ||| (if d (10 + 5 * h + 3) = 0 then (1 : Int32) <<< (nI h &&& 31) else 0)) i 0)), (2, .int (nI i))] → W p l e (rmx 1 0 0) s m args below meth c H locs 0 0 Qf (F0 m 4 ls []) := by
    intro fu
    induction fu with
    | zero => intro i hi hfu; exfalso; omega
    | succ fu ih4 =>
      intro i hi hfu H locs ls hw hl
      refine lv_iload_n hx hb dX7_coldOnes_4 rfl (lv_at hl 2 rfl) ?_
      refine lv_aload_n hx hb dX7_coldOnes_5 rfl (lv_at hl 0 rfl) ?_
      refine s_get (v := .ref (ad 0)) fb7 cf hw 0 rfl 0 rfl q921 (hf.2 0 rfl) dX7_coldOnes_6 ?_
      refine lv_iconst (v := 0) hx hb dX7_coldOnes_9 (by decide) ?_
      refine s_iald (j := 0) cf hw 1 rfl (rfl) (by decide) rfl dX7_coldOnes_10 ?_
      refine lv_icmp_ge (tgt := 39) hx hb dX7_coldOnes_11 (by decide) (fun c11 => ?_) (fun c11 => ?_)
      · have hi2 : n = i := by rw [hn] at c11; have := nI_le_of (by omega) c11 (by omega); omega
        subst hi2
        refine lv_iload_n hx hb dX7_coldOnes_39 rfl (lv_at hl 1 rfl) ?_
        exact s_iret cf hr hlk () hw (by unfold coldF; rw [nH_of hn hn10]) (Nat.le_of_ble_eq_true rfl) (Nat.le_of_ble_eq_true rfl) dX7_coldOnes_40 hQ
      · have hlt : i < n := by rw [hn] at c11; exact nI_lt_of (by omega) c11 (by omega)
        refine lv_iload_n hx hb dX7_coldOnes_14 rfl (lv_at hl 1 rfl) ?_
        refine lv_aload_n hx hb dX7_coldOnes_15 rfl (lv_at hl 0 rfl) ?_
        refine lv_iload_n hx hb dX7_coldOnes_16 rfl (lv_at hl 2 rfl) ?_
        refine lv_iconst (v := 3) hx hb dX7_coldOnes_17 (by decide) ?_
        refine s_calli (runV cf (m_of (d := d) hf i 3 (by omega)) hw [0, 1] (by decide) rfl km_X7_of ki_X7_of q1076 (run_recv (ci := 7) (T := TX7) (N := 39) hw 0 rfl rfl) rfl rfl hl.1 rfl dX7_coldOnes_18) hw [0, 1] (by decide) rfl (fun _ => rfl) (fun r_3 u_1 H locs hp_2 hw => ?_)
        have hw : WD g A s H locs [bO a 7 fs, bI g (ad 0) 60 d] := hw
        subst hp_2
        refine lv_if_ne (tgt := 30) hx hb dX7_coldOnes_21 (by decide) (fun c21 => ?_) (fun c21 => ?_)
        · refine lv_iconst (v := 0) hx hb dX7_coldOnes_30 (by decide) ?_
          refine lv_topr (y := if d (10 + 5 * i + 3) = 0 then (1 : Int32) <<< (nI i &&& 31) else 0) (by grind) ?_
          refine lv_ior hx hb dX7_coldOnes_31 ?_
          refine lv_istore_n (lv' := [(1, .int ((itn (fun h x => x ||| (if d (10 + 5 * h + 3) = 0 then (1 : Int32) <<< (nI h &&& 31) else 0)) i 0) ||| (if d (10 + 5 * i + 3) = 0 then (1 : Int32) <<< (nI i &&& 31) else 0))), (0, .ref a), (2, .int (nI i))]) hx hb dX7_coldOnes_32 rfl hl (by decide) rfl (fun ls hl => ?_)
          refine lv_iinc (v := nI (i + 1)) (lv' := [(2, .int (nI (i + 1))), (1, .int ((itn (fun h x => x ||| (if d (10 + 5 * h + 3) = 0 then (1 : Int32) <<< (nI h &&& 31) else 0)) i 0) ||| (if d (10 + 5 * i + 3) = 0 then (1 : Int32) <<< (nI i &&& 31) else 0))), (0, .ref a)]) hx hb dX7_coldOnes_33 hl (k := 2) rfl (nI_1 i) (by decide) rfl (fun ls hl => ?_)
          refine lv_goto (tgt := 4) hx hb dX7_coldOnes_36 (by decide) ?_
          exact ih4 (i + 1) (by omega) (by omega) _ _ _ hw (lv_sub hl [2, 1, 0] rfl)
        · refine lv_iconst (v := 1) hx hb dX7_coldOnes_24 (by decide) ?_
          refine lv_iload_n hx hb dX7_coldOnes_25 rfl (lv_at hl 2 rfl) ?_
          refine lv_ishl hx hb dX7_coldOnes_26 ?_
          refine lv_goto (tgt := 31) hx hb dX7_coldOnes_27 (by decide) ?_
          refine lv_topr (y := if d (10 + 5 * i + 3) = 0 then (1 : Int32) <<< (nI i &&& 31) else 0) (by grind) ?_
          refine lv_ior hx hb dX7_coldOnes_31 ?_
          refine lv_istore_n (lv' := [(1, .int ((itn (fun h x => x ||| (if d (10 + 5 * h + 3) = 0 then (1 : Int32) <<< (nI h &&& 31) else 0)) i 0) ||| (if d (10 + 5 * i + 3) = 0 then (1 : Int32) <<< (nI i &&& 31) else 0))), (0, .ref a), (2, .int (nI i))]) hx hb dX7_coldOnes_32 rfl hl (by decide) rfl (fun ls hl => ?_)
          refine lv_iinc (v := nI (i + 1)) (lv' := [(2, .int (nI (i + 1))), (1, .int ((itn (fun h x => x ||| (if d (10 + 5 * h + 3) = 0 then (1 : Int32) <<< (nI h &&& 31) else 0)) i 0) ||| (if d (10 + 5 * i + 3) = 0 then (1 : Int32) <<< (nI i &&& 31) else 0))), (0, .ref a)]) hx hb dX7_coldOnes_33 hl (k := 2) rfl (nI_1 i) (by decide) rfl (fun ls hl => ?_)
          refine lv_goto (tgt := 4) hx hb dX7_coldOnes_36 (by decide) ?_
          exact ih4 (i + 1) (by omega) (by omega) _ _ _ hw (lv_sub hl [2, 1, 0] rfl)
  exact L4 (n + 1) 0 (by omega) (by omega) _ _ _ hw (lv_sub hl [2, 1, 0] rfl)
set_option maxRecDepth 100000 in
set_option maxHeartbeats 4000000 in
theorem m_loudest {l : Launch} {g : GG} {a : Nat} {ad : Nat → Nat} {fs : List Value} (hf : MF ad fs) {d : DD} {n : Nat} (hn : d 0 = nI n) (hn10 : n ≤ 10) : Ct l g yX7_loudest cX7_loudest 3 (Option.some Jvm.ClassFile.FieldType.int) 1 0 0 [.ref a] [bO a 7 fs, bI g (ad 0) 60 d] (QI g (fun r (_ : Unit) => r = if n = 0 then -1000000005 else nI (loudestB d n)) (fun _ => [bO a 7 fs, bI g (ad 0) 60 d])) := by
  refine Ct.of (by decide) rfl ?_
  intro p e s m args below meth c A H locs ls Qf cf hr hlk hnm hQ hw hl
  have hx := cf.1
  have hb := cf.2.1
  have hml := cf.2.2.1
  have hown := cf.2.2.2.1
  have hts := cf.2.2.2.2
  have hw : WD g A s H locs [bO a 7 fs, bI g (ad 0) 60 d] := hw
  have hl : lv_has ls 3 [(0, .ref a)] := hl
  refine lv_iconst (v := 0) hx hb dX7_loudest_0 (by decide) ?_
  refine lv_istore_n (lv' := [(1, .int 0), (0, .ref a)]) hx hb dX7_loudest_1 rfl hl (by decide) rfl (fun ls hl => ?_)
  refine lv_iconst (v := 1) hx hb dX7_loudest_2 (by decide) ?_
  refine lv_istore_n (lv' := [(2, .int 1), (1, .int 0), (0, .ref a)]) hx hb dX7_loudest_3 rfl hl (by decide) rfl (fun ls hl => ?_)
  have L4 : ∀ (fu : Nat) (i : Nat), (1 ≤ i) → (i ≤ n ∨ n = 0 ∧ i = 1) → (n + 1 < i + fu) → ∀ (H : Heap) (locs : List Loc) (ls : Array Slot), WD g A s H locs [bO a 7 fs, bI g (ad 0) 60 d] → lv_has ls 3 [(0, .ref a), (1, .int (nI (loudestB d i))), (2, .int (nI i))] → W p l e (rmx 1 0 0) s m args below meth c H locs 0 0 Qf (F0 m 4 ls []) := by
    intro fu
    induction fu with
    | zero => intro i h1 hi hfu; exfalso; omega
    | succ fu ih4 =>
      intro i h1 hi hfu H locs ls hw hl
      refine lv_iload_n hx hb dX7_loudest_4 rfl (lv_at hl 2 rfl) ?_
      refine lv_aload_n hx hb dX7_loudest_5 rfl (lv_at hl 0 rfl) ?_
      refine s_get (v := .ref (ad 0)) fb7 cf hw 0 rfl 0 rfl q921 (hf.2 0 rfl) dX7_loudest_6 ?_
      refine lv_iconst (v := 0) hx hb dX7_loudest_9 (by decide) ?_
      refine s_iald (j := 0) cf hw 1 rfl (rfl) (by decide) rfl dX7_loudest_10 ?_
      refine lv_icmp_ge (tgt := 41) hx hb dX7_loudest_11 (by decide) (fun c11 => ?_) (fun c11 => ?_)
      · have hi2 : n ≤ i := by rw [hn] at c11; exact nI_le_of (by omega) c11 (by omega)
        refine lv_aload_n hx hb dX7_loudest_41 rfl (lv_at hl 0 rfl) ?_
        refine s_get (v := .ref (ad 0)) fb7 cf hw 0 rfl 0 rfl q921 (hf.2 0 rfl) dX7_loudest_42 ?_
        refine lv_iconst (v := 0) hx hb dX7_loudest_45 (by decide) ?_
        refine s_iald (j := 0) cf hw 1 rfl (rfl) (by decide) rfl dX7_loudest_46 ?_
        refine lv_if_ne (tgt := 55) hx hb dX7_loudest_47 (by decide) (fun c47 => ?_) (fun c47 => ?_)
        · refine lv_iload_n hx hb dX7_loudest_55 rfl (lv_at hl 1 rfl) ?_
          exact s_iret cf hr hlk () hw (by have hn0 : n ≠ 0 := fun q => c47 (by rw [hn, q]; rfl); rw [if_neg hn0, show i = n by omega]) (Nat.le_of_ble_eq_true rfl) (Nat.le_of_ble_eq_true rfl) dX7_loudest_56 hQ
        · refine lv_ldc hx hb hown (hts _ q1198) dX7_loudest_50 ?_
          refine lv_goto (tgt := 56) hx hb dX7_loudest_52 (by decide) ?_
          exact s_iret cf hr hlk () hw (by rw [if_pos (by rw [hn] at c47; exact (nI_eq (by omega) (by omega)).mp c47)]) (Nat.le_of_ble_eq_true rfl) (Nat.le_of_ble_eq_true rfl) dX7_loudest_56 hQ
      · have hlt : i < n := by rw [hn] at c11; exact nI_lt_of (by omega) c11 (by omega)
        have hlb := loudestB_le d i (by omega)
        refine lv_aload_n hx hb dX7_loudest_14 rfl (lv_at hl 0 rfl) ?_
        refine lv_iload_n hx hb dX7_loudest_15 rfl (lv_at hl 2 rfl) ?_
        refine lv_iconst (v := 4) hx hb dX7_loudest_16 (by decide) ?_
        refine s_calli (runV cf (m_of (d := d) hf i 4 (by omega)) hw [0, 1] (by decide) rfl km_X7_of ki_X7_of q1076 (run_recv (ci := 7) (T := TX7) (N := 39) hw 0 rfl rfl) rfl rfl hl.1 rfl dX7_loudest_17) hw [0, 1] (by decide) rfl (fun _ => rfl) (fun r_3 u_1 H locs hp_2 hw => ?_)
        have hw : WD g A s H locs [bO a 7 fs, bI g (ad 0) 60 d] := hw
        subst hp_2
        refine lv_aload_n hx hb dX7_loudest_20 rfl (lv_at hl 0 rfl) ?_
        refine lv_iload_n hx hb dX7_loudest_21 rfl (lv_at hl 1 rfl) ?_
        refine lv_iconst (v := 4) hx hb dX7_loudest_22 (by decide) ?_
        refine s_calli (runV cf (m_of (d := d) hf (loudestB d i) 4 (by omega)) hw [0, 1] (by decide) rfl km_X7_of ki_X7_of q1076 (run_recv (ci := 7) (T := TX7) (N := 39) hw 0 rfl rfl) rfl rfl hl.1 rfl dX7_loudest_23) hw [0, 1] (by decide) rfl (fun _ => rfl) (fun r_6 u_4 H locs hp_5 hw => ?_)
        have hw : WD g A s H locs [bO a 7 fs, bI g (ad 0) 60 d] := hw
        subst hp_5
        refine lv_icmp_le (tgt := 33) hx hb dX7_loudest_26 (by decide) (fun c26 => ?_) (fun c26 => ?_)
        · refine lv_iload_n hx hb dX7_loudest_33 rfl (lv_at hl 1 rfl) ?_
          refine lv_topr (y := nI (loudestB d (i + 1))) (by show _ = nI (if d (10 + 5 * loudestB d i + 4) < d (10 + 5 * i + 4) then i else loudestB d i); grind) ?_
          refine lv_istore_n (lv' := [(1, .int (nI (loudestB d (i + 1)))), (0, .ref a), (2, .int (nI i))]) hx hb dX7_loudest_34 rfl hl (by decide) rfl (fun ls hl => ?_)
          refine lv_iinc (v := nI (i + 1)) (lv' := [(2, .int (nI (i + 1))), (1, .int (nI (loudestB d (i + 1)))), (0, .ref a)]) hx hb dX7_loudest_35 hl (k := 2) rfl (nI_1 i) (by decide) rfl (fun ls hl => ?_)
          refine lv_goto (tgt := 4) hx hb dX7_loudest_38 (by decide) ?_
          exact ih4 (i + 1) (by omega) (by omega) (by omega) _ _ _ hw (lv_sub hl [2, 1, 0] rfl)
        · refine lv_iload_n hx hb dX7_loudest_29 rfl (lv_at hl 2 rfl) ?_
          refine lv_goto (tgt := 34) hx hb dX7_loudest_30 (by decide) ?_
          refine lv_topr (y := nI (loudestB d (i + 1))) (by show _ = nI (if d (10 + 5 * loudestB d i + 4) < d (10 + 5 * i + 4) then i else loudestB d i); grind) ?_
          refine lv_istore_n (lv' := [(1, .int (nI (loudestB d (i + 1)))), (0, .ref a), (2, .int (nI i))]) hx hb dX7_loudest_34 rfl hl (by decide) rfl (fun ls hl => ?_)
          refine lv_iinc (v := nI (i + 1)) (lv' := [(2, .int (nI (i + 1))), (1, .int (nI (loudestB d (i + 1)))), (0, .ref a)]) hx hb dX7_loudest_35 hl (k := 2) rfl (nI_1 i) (by decide) rfl (fun ls hl => ?_)
          refine lv_goto (tgt := 4) hx hb dX7_loudest_38 (by decide) ?_
          exact ih4 (i + 1) (by omega) (by omega) (by omega) _ _ _ hw (lv_sub hl [2, 1, 0] rfl)
  have hl : lv_has ls 3 [(2, .int 1), (1, .int (nI (loudestB d 1))), (0, .ref a)] := by rw [loudestB_1]; exact hl
  exact L4 (n + 1) 1 (by omega) (by omega) (by omega) _ _ _ hw (lv_sub hl [2, 1, 0] rfl)
