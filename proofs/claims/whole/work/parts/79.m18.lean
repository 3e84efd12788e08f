set_option maxRecDepth 100000 in
set_option maxHeartbeats 4000000 in
theorem m_piece_b {l : Launch} {g : GG} {a : Nat} {ad : Nat → Nat} {ik ky wt : Int32} {tf : DD} {tp : Nat} (htp : tp ≤ 96) {o nn : Nat} (q : PS) (cz : DD) (hcr : CR cz q.2.1) (hbq : q.2.2.2 = true) : Ct l g yX7_piece cX7_piece 3 (Option.none : Option Jvm.ClassFile.FieldType) 6 0 0 [.ref a] [bO a 7 (mF ad ik (nI tp) (nI (atA tf tp q.1)) (nI (bgA tf tp q.1)) (tkA tf tp q.1) (vaA tf tp q.1) (nI q.2.1.length) (nI q.2.2.1) ky (nI o) (nI nn) (if q.2.2.2 = true then 1 else 0) (nI (bwA tf tp q.1)) wt), bI g (ad 10) 96 tf, bI g (ad 23) 96 cz] (QV g (fun (u : DD) => CR u q.2.1) (fun u => [bO a 7 (mF ad ik (nI tp) (nI (atA tf tp q.1)) (nI (bgA tf tp q.1)) (tkA tf tp q.1) (vaA tf tp q.1) (nI q.2.1.length) (nI q.2.2.1) ky (nI o) (nI nn) (if q.2.2.2 = true then 1 else 0) (nI (bwA tf tp q.1)) wt), bI g (ad 10) 96 tf, bI g (ad 23) 96 u])) := by
  refine Ct.of (by decide) rfl ?_
  intro p e s m args below meth c A H locs ls Qf cf hr hlk hnm hQ hw hl
  have hx := cf.1
  have hb := cf.2.1
  have hml := cf.2.2.1
  have hown := cf.2.2.2.1
  have hts := cf.2.2.2.2
  have hw : WD g A s H locs [bO a 7 (mF ad ik (nI tp) (nI (atA tf tp q.1)) (nI (bgA tf tp q.1)) (tkA tf tp q.1) (vaA tf tp q.1) (nI q.2.1.length) (nI q.2.2.1) ky (nI o) (nI nn) (if q.2.2.2 = true then 1 else 0) (nI (bwA tf tp q.1)) wt), bI g (ad 10) 96 tf, bI g (ad 23) 96 cz] := hw
  have hl : lv_has ls 3 [(0, .ref a)] := hl
  refine lv_aload_n hx hb dX7_piece_0 rfl (lv_at hl 0 rfl) ?_
  refine s_get (v := .int (if q.2.2.2 = true then 1 else 0)) fb7 cf hw 0 rfl 21 rfl q942 rfl dX7_piece_1 ?_
  refine lv_if_eq (tgt := 8) hx hb dX7_piece_4 (by decide) (fun c4 => ?_) (fun c4 => ?_)
  · have c4 := b01_z c4
    exact absurd hbq c4
  · have c4 := b01_n c4
    exact s_vret cf hr hlk cz hw hcr (Nat.le_of_ble_eq_true rfl) (Nat.le_of_ble_eq_true rfl) dX7_piece_7 hQ
theorem sb_whole {l : Launch} {g : GG} {a : Nat} {ad : Nat → Nat} {ik ky wt : Int32} {tf : DD} {tp : Nat} (htp : tp ≤ 96) {f o nn : Nat} {N : Prop} {pc : PS → PS} (hG : ∀ q, Gn tf tp q (pc q)) (hP : SbC l g yX7_piece cX7_piece 3 (6 * f + 6) a ad ik ky wt tf tp o nn N pc) : SbC l g yX7_whole cX7_whole 1 (6 * f + 11) a ad ik ky wt tf tp o nn N (wholeG tf tp pc) := by
  have h1 : SbC l g yX7_term cX7_term 2 (6 * f + 7) a ad ik ky wt tf tp o nn N (termG tf tp pc) := fun q cz a1 a2 a3 => m_term htp hG hP q cz a1 a2 a3
  have h2 : SbC l g yX7_sum cX7_sum 2 (6 * f + 8) a ad ik ky wt tf tp o nn N (sumG tf tp pc) := fun q cz a1 a2 a3 => m_sum htp (gn_term hG) h1 q cz a1 a2 a3
  have h3 : SbC l g yX7_test cX7_test 2 (6 * f + 9) a ad ik ky wt tf tp o nn N (testG tf tp pc) := fun q cz a1 a2 a3 => m_test htp (gn_sum hG) h2 q cz a1 a2 a3
  have h4 : SbC l g yX7_both cX7_both 1 (6 * f + 10) a ad ik ky wt tf tp o nn N (bothG tf tp pc) := fun q cz a1 a2 a3 => m_both htp (gn_test hG) h3 q cz a1 a2 a3
  exact fun q cz a1 a2 a3 => m_whole htp (gn_both hG) h4 q cz a1 a2 a3
theorem sb_piece {l : Launch} {g : GG} {a : Nat} {ad : Nat → Nat} {ik ky wt : Int32} {tf : DD} {tp : Nat} (htp : tp ≤ 96) (f : Nat) : ∀ o nn : Nat, SbC l g yX7_piece cX7_piece 3 (6 * f + 6) a ad ik ky wt tf tp o nn (NN f o nn) (pieceF tf tp ky f o nn) := by
  induction f with
  | zero =>
    intro o nn q cz a1 a2 a3
    have hb : q.2.2.2 = true := by
      cases z : q.2.2.2 with
      | true => rfl
      | false => have := a3 z; obtain ⟨x, y, w⟩ := this; exact absurd x (by omega)
    exact m_piece_b htp q cz a1 hb
  | succ f ih =>
    intro o nn q cz a1 a2 a3
    exact m_piece_s htp ih (fun o nn => sb_whole htp (fun q => gn_piece f o nn q) (ih o nn)) o nn q cz a1 a2 a3
set_option maxRecDepth 100000 in
set_option maxHeartbeats 4000000 in
theorem m_text {l : Launch} {g : GG} {a : Nat} {ad : Nat → Nat} {ik ky0 wt : Int32} {at0 bg0 tk0 cd0 wo0 op0 nt0 wr0 bw0 : Int32} {va0 : Int64} {tf : DD} {tp : Nat} (htp : tp ≤ 96) {d cdf kf sf wf cz : DD} {nt : Nat} (hnt : d 9 = nI nt) (hnt14 : nt ≤ 14) : Ct l g yX7_text cX7_text 3 (Option.some Jvm.ClassFile.FieldType.int) 114 0 0 [.ref a] [bO a 7 (mF ad ik (nI tp) at0 bg0 tk0 va0 cd0 wo0 ky0 op0 nt0 wr0 bw0 wt), bI g (ad 0) 60 d, bI g (ad 5) 1344 cdf, bI g (ad 6) 14 kf, bI g (ad 7) 14 sf, bI g (ad 8) 14 wf, bI g (ad 10) 96 tf, bI g (ad 23) 96 cz] (QI g (fun r (u : DD) => r = R_text d tf tp ∧ CR u (tqF tf tp).2.1) (fun u => [bO a 7 (mF ad ik 0 (nI (atA tf tp (tqF tf tp).1)) (nI (bgA tf tp (tqF tf tp).1)) (tkA tf tp (tqF tf tp).1) (vaA tf tp (tqF tf tp).1) (nI (tqF tf tp).2.1.length) (nI (tqF tf tp).2.2.1) (kyT tf tp) (nI 0) (nI 0) (if wrT tf tp then 1 else 0) (nI (bwA tf tp (tqF tf tp).1)) wt), bI g (ad 0) 60 (if okTx d tf tp then upd d 9 (d 9 + 1) else d), bI g (ad 5) 1344 (if okTx d tf tp then cdR u (96 * nt) (tqF tf tp).2.1.length cdf else cdf), bI g (ad 6) 14 (if okTx d tf tp then upd kf nt (kyT tf tp) else kf), bI g (ad 7) 14 (if okTx d tf tp then upd sf nt (nI (tqF tf tp).2.1.length) else sf), bI g (ad 8) 14 (if okTx d tf tp then upd wf nt (nI (tqF tf tp).2.2.1) else wf), bI g (ad 10) 96 tf, bI g (ad 23) 96 u])) := by
  refine Ct.of (by decide) rfl ?_
  intro p e s m args below meth c A H locs ls Qf cf hr hlk hnm hQ hw hl
  have hx := cf.1
  have hb := cf.2.1
  have hml := cf.2.2.1
  have hown := cf.2.2.2.1
  have hts := cf.2.2.2.2
  have hw : WD g A s H locs [bO a 7 (mF ad ik (nI tp) at0 bg0 tk0 va0 cd0 wo0 ky0 op0 nt0 wr0 bw0 wt), bI g (ad 0) 60 d, bI g (ad 5) 1344 cdf, bI g (ad 6) 14 kf, bI g (ad 7) 14 sf, bI g (ad 8) 14 wf, bI g (ad 10) 96 tf, bI g (ad 23) 96 cz] := hw
  have hl : lv_has ls 3 [(0, .ref a)] := hl
  have hWh : SbC l g yX7_whole cX7_whole 1 (6 * 17 + 11) a ad ik (kyT tf tp) wt tf tp 0 0 (NN 17 0 0) (wholeG tf tp (pieceF tf tp (kyT tf tp) 17 0 0)) := sb_whole htp (fun q => gn_piece 17 0 0 q) (sb_piece htp 17 0 0)
  refine lv_aload_n hx hb dX7_text_0 rfl (lv_at hl 0 rfl) ?_
  refine lv_iconst (v := 0) hx hb dX7_text_1 (by decide) ?_
  refine s_put (v := .int 0) fb7 cf hw 0 rfl 12 rfl q933 rfl rfl rfl rfl dX7_text_2 (fun H locs hw => ?_)
  have hw : WD g A s H locs [bO a 7 (mF ad ik (nI tp) 0 bg0 tk0 va0 cd0 wo0 ky0 op0 nt0 wr0 bw0 wt), bI g (ad 0) 60 d, bI g (ad 5) 1344 cdf, bI g (ad 6) 14 kf, bI g (ad 7) 14 sf, bI g (ad 8) 14 wf, bI g (ad 10) 96 tf, bI g (ad 23) 96 cz] := hw
  refine lv_aload_n hx hb dX7_text_5 rfl (lv_at hl 0 rfl) ?_
  refine lv_iconst (v := 0) hx hb dX7_text_6 (by decide) ?_
  refine s_put (v := .int 0) fb7 cf hw 0 rfl 22 rfl q943 rfl rfl rfl rfl dX7_text_7 (fun H locs hw => ?_)
  have hw : WD g A s H locs [bO a 7 (mF ad ik (nI tp) 0 bg0 tk0 va0 cd0 wo0 ky0 op0 nt0 wr0 0 wt), bI g (ad 0) 60 d, bI g (ad 5) 1344 cdf, bI g (ad 6) 14 kf, bI g (ad 7) 14 sf, bI g (ad 8) 14 wf, bI g (ad 10) 96 tf, bI g (ad 23) 96 cz] := hw
  refine lv_aload_n hx hb dX7_text_10 rfl (lv_at hl 0 rfl) ?_
  refine lv_iconst (v := 0) hx hb dX7_text_11 (by decide) ?_
  refine s_put (v := .int 0) fb7 cf hw 0 rfl 16 rfl q937 rfl rfl rfl rfl dX7_text_12 (fun H locs hw => ?_)
  have hw : WD g A s H locs [bO a 7 (mF ad ik (nI tp) 0 bg0 tk0 va0 0 wo0 ky0 op0 nt0 wr0 0 wt), bI g (ad 0) 60 d, bI g (ad 5) 1344 cdf, bI g (ad 6) 14 kf, bI g (ad 7) 14 sf, bI g (ad 8) 14 wf, bI g (ad 10) 96 tf, bI g (ad 23) 96 cz] := hw
  refine lv_aload_n hx hb dX7_text_15 rfl (lv_at hl 0 rfl) ?_
  refine lv_iconst (v := 0) hx hb dX7_text_16 (by decide) ?_
  refine s_put (v := .int 0) fb7 cf hw 0 rfl 17 rfl q938 rfl rfl rfl rfl dX7_text_17 (fun H locs hw => ?_)
  have hw : WD g A s H locs [bO a 7 (mF ad ik (nI tp) 0 bg0 tk0 va0 0 0 ky0 op0 nt0 wr0 0 wt), bI g (ad 0) 60 d, bI g (ad 5) 1344 cdf, bI g (ad 6) 14 kf, bI g (ad 7) 14 sf, bI g (ad 8) 14 wf, bI g (ad 10) 96 tf, bI g (ad 23) 96 cz] := hw
  refine lv_aload_n hx hb dX7_text_20 rfl (lv_at hl 0 rfl) ?_
  refine lv_iconst (v := 0) hx hb dX7_text_21 (by decide) ?_
  refine s_put (v := .int 0) fb7 cf hw 0 rfl 19 rfl q940 rfl rfl rfl rfl dX7_text_22 (fun H locs hw => ?_)
  have hw : WD g A s H locs [bO a 7 (mF ad ik (nI tp) 0 bg0 tk0 va0 0 0 ky0 0 nt0 wr0 0 wt), bI g (ad 0) 60 d, bI g (ad 5) 1344 cdf, bI g (ad 6) 14 kf, bI g (ad 7) 14 sf, bI g (ad 8) 14 wf, bI g (ad 10) 96 tf, bI g (ad 23) 96 cz] := hw
  refine lv_aload_n hx hb dX7_text_25 rfl (lv_at hl 0 rfl) ?_
  refine lv_iconst (v := 0) hx hb dX7_text_26 (by decide) ?_
  refine s_put (v := .int 0) fb7 cf hw 0 rfl 20 rfl q941 rfl rfl rfl rfl dX7_text_27 (fun H locs hw => ?_)
  have hw : WD g A s H locs [bO a 7 (mF ad ik (nI tp) 0 bg0 tk0 va0 0 0 ky0 0 0 wr0 0 wt), bI g (ad 0) 60 d, bI g (ad 5) 1344 cdf, bI g (ad 6) 14 kf, bI g (ad 7) 14 sf, bI g (ad 8) 14 wf, bI g (ad 10) 96 tf, bI g (ad 23) 96 cz] := hw
  refine lv_aload_n hx hb dX7_text_30 rfl (lv_at hl 0 rfl) ?_
  refine lv_iconst (v := 0) hx hb dX7_text_31 (by decide) ?_
  refine s_put (v := .int 0) fb7 cf hw 0 rfl 21 rfl q942 rfl rfl rfl rfl dX7_text_32 (fun H locs hw => ?_)
  have hw : WD g A s H locs [bO a 7 (mF ad ik (nI tp) 0 bg0 tk0 va0 0 0 ky0 0 0 0 0 wt), bI g (ad 0) 60 d, bI g (ad 5) 1344 cdf, bI g (ad 6) 14 kf, bI g (ad 7) 14 sf, bI g (ad 8) 14 wf, bI g (ad 10) 96 tf, bI g (ad 23) 96 cz] := hw
  refine lv_aload_n hx hb dX7_text_35 rfl (lv_at hl 0 rfl) ?_
  refine s_callv (runV cf (m_next (ik := ik) (ky := ky0) (wt := wt) (bg0 := bg0) (tk0 := tk0) (va0 := va0) (cd0 := 0) (wo0 := 0) (op0 := 0) (nt0 := 0) (wr0 := 0) (tf := tf) (at_ := 0) (bw := 0) (tp := tp) htp (Nat.zero_le _) (by omega)) hw [0, 6] (by decide) rfl km_X7_next ki_X7_next q1268 (run_recv (ci := 7) (T := TX7) (N := 39) hw 0 rfl rfl) rfl rfl hl.1 rfl dX7_text_36) hw [0, 6] (by decide) rfl (fun _ => rfl) (fun u_1 H locs hp_2 hw => ?_)
  have hw : WD g A s H locs [bO a 7 (mF ad ik (nI tp) (nI (lexF tf tp 0 0).2.1) (nI (lexF tf tp 0 0).1) ((lexF tf tp 0 0).2.2.2.1) ((lexF tf tp 0 0).2.2.2.2) 0 0 ky0 0 0 0 (nI (lexF tf tp 0 0).2.2.1) wt), bI g (ad 0) 60 d, bI g (ad 5) 1344 cdf, bI g (ad 6) 14 kf, bI g (ad 7) 14 sf, bI g (ad 8) 14 wf, bI g (ad 10) 96 tf, bI g (ad 23) 96 cz] := hw
  have hw : WD g A s H locs [bO a 7 (mF ad ik (nI tp) (nI (atA tf tp tq0.1)) (nI (bgA tf tp tq0.1)) (tkA tf tp tq0.1) (vaA tf tp tq0.1) (nI tq0.2.1.length) (nI tq0.2.2.1) ky0 (nI 0) (nI 0) (if tq0.2.2.2 = true then 1 else 0) (nI (bwA tf tp tq0.1)) wt), bI g (ad 0) 60 d, bI g (ad 5) 1344 cdf, bI g (ad 6) 14 kf, bI g (ad 7) 14 sf, bI g (ad 8) 14 wf, bI g (ad 10) 96 tf, bI g (ad 23) 96 cz] := hw
  have L110 : ∀ (H : Heap) (locs : List Loc) (ls : Array Slot), WD g A s H locs [bO a 7 (mF ad ik (nI tp) (nI (atA tf tp tq0.1)) (nI (bgA tf tp tq0.1)) (tkA tf tp tq0.1) (vaA tf tp tq0.1) (nI tq0.2.1.length) (nI tq0.2.2.1) ky0 (nI 0) (nI 0) (if tq0.2.2.2 = true then 1 else 0) (nI (bwA tf tp tq0.1)) wt), bI g (ad 0) 60 d, bI g (ad 5) 1344 cdf, bI g (ad 6) 14 kf, bI g (ad 7) 14 sf, bI g (ad 8) 14 wf, bI g (ad 10) 96 tf, bI g (ad 23) 96 cz] → lv_has ls 3 [(0, .ref a)] → W p l e (rmx 114 0 0) s m args below meth c H locs 0 0 Qf (F0 m 110 ls [.int (kyT tf tp), .ref a]) := by
    intro   H locs ls hw hl
    refine s_put (v := .int (kyT tf tp)) fb7 cf hw 0 rfl 18 rfl q939 rfl rfl rfl rfl dX7_text_110 (fun H locs hw => ?_)
    have hw : WD g A s H locs [bO a 7 (mF ad ik (nI tp) (nI (atA tf tp tq0.1)) (nI (bgA tf tp tq0.1)) (tkA tf tp tq0.1) (vaA tf tp tq0.1) (nI tq0.2.1.length) (nI tq0.2.2.1) (kyT tf tp) (nI 0) (nI 0) (if tq0.2.2.2 = true then 1 else 0) (nI (bwA tf tp tq0.1)) wt), bI g (ad 0) 60 d, bI g (ad 5) 1344 cdf, bI g (ad 6) 14 kf, bI g (ad 7) 14 sf, bI g (ad 8) 14 wf, bI g (ad 10) 96 tf, bI g (ad 23) 96 cz] := hw
    have L129 : ∀ (H : Heap) (locs : List Loc) (ls : Array Slot), WD g A s H locs [bO a 7 (mF ad ik (nI tp) (nI (atA tf tp (tq1 tf tp).1)) (nI (bgA tf tp (tq1 tf tp).1)) (tkA tf tp (tq1 tf tp).1) (vaA tf tp (tq1 tf tp).1) (nI (tq1 tf tp).2.1.length) (nI (tq1 tf tp).2.2.1) (kyT tf tp) (nI 0) (nI 0) (if (tq1 tf tp).2.2.2 = true then 1 else 0) (nI (bwA tf tp (tq1 tf tp).1)) wt), bI g (ad 0) 60 d, bI g (ad 5) 1344 cdf, bI g (ad 6) 14 kf, bI g (ad 7) 14 sf, bI g (ad 8) 14 wf, bI g (ad 10) 96 tf, bI g (ad 23) 96 cz] → lv_has ls 3 [(0, .ref a)] → W p l e (rmx 114 0 0) s m args below meth c H locs 0 0 Qf (F0 m 129 ls []) := by
      intro   H locs ls hw hl
      refine lv_aload_n hx hb dX7_text_129 rfl (lv_at hl 0 rfl) ?_
      refine s_callv (runV cf (hWh (tq1 tf tp) cz (show CR cz (tq1 tf tp).2.1 by unfold tq1; rw [go_cs]; exact CR.nil) tq1_ok (fun _ => ⟨by omega, by omega, by omega⟩)) hw [0, 6, 7] (by decide) rfl km_X7_whole ki_X7_whole q1288 (run_recv (ci := 7) (T := TX7) (N := 39) hw 0 rfl rfl) rfl rfl hl.1 rfl dX7_text_130) hw [0, 6, 7] (by decide) rfl (fun _ => rfl) (fun u_3 H locs hp_4 hw => ?_)
      have hw : WD g A s H locs [bO a 7 (mF ad ik (nI tp) (nI (atA tf tp (wholeG tf tp (pieceF tf tp (kyT tf tp) 17 0 0) (tq1 tf tp)).1)) (nI (bgA tf tp (wholeG tf tp (pieceF tf tp (kyT tf tp) 17 0 0) (tq1 tf tp)).1)) (tkA tf tp (wholeG tf tp (pieceF tf tp (kyT tf tp) 17 0 0) (tq1 tf tp)).1) (vaA tf tp (wholeG tf tp (pieceF tf tp (kyT tf tp) 17 0 0) (tq1 tf tp)).1) (nI (wholeG tf tp (pieceF tf tp (kyT tf tp) 17 0 0) (tq1 tf tp)).2.1.length) (nI (wholeG tf tp (pieceF tf tp (kyT tf tp) 17 0 0) (tq1 tf tp)).2.2.1) (kyT tf tp) (nI 0) (nI 0) (if (wholeG tf tp (pieceF tf tp (kyT tf tp) 17 0 0) (tq1 tf tp)).2.2.2 = true then 1 else 0) (nI (bwA tf tp (wholeG tf tp (pieceF tf tp (kyT tf tp) 17 0 0) (tq1 tf tp)).1)) wt), bI g (ad 0) 60 d, bI g (ad 5) 1344 cdf, bI g (ad 6) 14 kf, bI g (ad 7) 14 sf, bI g (ad 8) 14 wf, bI g (ad 10) 96 tf, bI g (ad 23) 96 u_3] := hw
      obtain ⟨q1_, hq1_⟩ : ∃ z, z = wholeG tf tp (pieceF tf tp (kyT tf tp) 17 0 0) (tq1 tf tp) := ⟨_, rfl⟩
      have hw : WD g A s H locs [bO a 7 (mF ad ik (nI tp) (nI (atA tf tp q1_.1)) (nI (bgA tf tp q1_.1)) (tkA tf tp q1_.1) (vaA tf tp q1_.1) (nI q1_.2.1.length) (nI q1_.2.2.1) (kyT tf tp) (nI 0) (nI 0) (if q1_.2.2.2 = true then 1 else 0) (nI (bwA tf tp q1_.1)) wt), bI g (ad 0) 60 d, bI g (ad 5) 1344 cdf, bI g (ad 6) 14 kf, bI g (ad 7) 14 sf, bI g (ad 8) 14 wf, bI g (ad 10) 96 tf, bI g (ad 23) 96 u_3] := by rw [hq1_]; exact hw
      have hcq1_ : CR u_3 q1_.2.1 := by rw [hq1_]; exact hp_4
      have hw : WD g A s H locs [bO a 7 (mF ad ik (nI tp) (nI (atA tf tp (tqF tf tp).1)) (nI (bgA tf tp (tqF tf tp).1)) (tkA tf tp (tqF tf tp).1) (vaA tf tp (tqF tf tp).1) (nI (tqF tf tp).2.1.length) (nI (tqF tf tp).2.2.1) (kyT tf tp) (nI 0) (nI 0) (if (tqF tf tp).2.2.2 = true then 1 else 0) (nI (bwA tf tp (tqF tf tp).1)) wt), bI g (ad 0) 60 d, bI g (ad 5) 1344 cdf, bI g (ad 6) 14 kf, bI g (ad 7) 14 sf, bI g (ad 8) 14 wf, bI g (ad 10) 96 tf, bI g (ad 23) 96 u_3] := by rw [show tqF tf tp = q1_ from hq1_.symm]; exact hw
      have hcT : CR u_3 (tqF tf tp).2.1 := by rw [show tqF tf tp = q1_ from hq1_.symm]; exact hcq1_
      have L153 : ∀ (H : Heap) (locs : List Loc) (ls : Array Slot), WD g A s H locs [bO a 7 (mF ad ik (nI tp) (nI (atA tf tp (tqF tf tp).1)) (nI (bgA tf tp (tqF tf tp).1)) (tkA tf tp (tqF tf tp).1) (vaA tf tp (tqF tf tp).1) (nI (tqF tf tp).2.1.length) (nI (tqF tf tp).2.2.1) (kyT tf tp) (nI 0) (nI 0) (if (tqF tf tp).2.2.2 = true then 1 else 0) (nI (bwA tf tp (tqF tf tp).1)) wt), bI g (ad 0) 60 d, bI g (ad 5) 1344 cdf, bI g (ad 6) 14 kf, bI g (ad 7) 14 sf, bI g (ad 8) 14 wf, bI g (ad 10) 96 tf, bI g (ad 23) 96 u_3] → lv_has ls 3 [(0, .ref a)] → W p l e (rmx 114 0 0) s m args below meth c H locs 0 0 Qf (F0 m 153 ls [.int (if wrT tf tp then 1 else 0), .ref a]) := by
        intro   H locs ls hw hl
        refine s_put (v := .int (if wrT tf tp then 1 else 0)) fb7 cf hw 0 rfl 21 rfl q942 rfl (by split <;> rfl) (by split <;> rfl) rfl dX7_text_153 (fun H locs hw => ?_)
        have hw : WD g A s H locs [bO a 7 (mF ad ik (nI tp) (nI (atA tf tp (tqF tf tp).1)) (nI (bgA tf tp (tqF tf tp).1)) (tkA tf tp (tqF tf tp).1) (vaA tf tp (tqF tf tp).1) (nI (tqF tf tp).2.1.length) (nI (tqF tf tp).2.2.1) (kyT tf tp) (nI 0) (nI 0) (if wrT tf tp then 1 else 0) (nI (bwA tf tp (tqF tf tp).1)) wt), bI g (ad 0) 60 d, bI g (ad 5) 1344 cdf, bI g (ad 6) 14 kf, bI g (ad 7) 14 sf, bI g (ad 8) 14 wf, bI g (ad 10) 96 tf, bI g (ad 23) 96 u_3] := hw
        refine lv_aload_n hx hb dX7_text_156 rfl (lv_at hl 0 rfl) ?_
        refine lv_iconst (v := 0) hx hb dX7_text_157 (by decide) ?_
        refine s_put (v := .int 0) fb7 cf hw 0 rfl 11 rfl q932 rfl rfl rfl rfl dX7_text_158 (fun H locs hw => ?_)
        have hw : WD g A s H locs [bO a 7 (mF ad ik 0 (nI (atA tf tp (tqF tf tp).1)) (nI (bgA tf tp (tqF tf tp).1)) (tkA tf tp (tqF tf tp).1) (vaA tf tp (tqF tf tp).1) (nI (tqF tf tp).2.1.length) (nI (tqF tf tp).2.2.1) (kyT tf tp) (nI 0) (nI 0) (if wrT tf tp then 1 else 0) (nI (bwA tf tp (tqF tf tp).1)) wt), bI g (ad 0) 60 d, bI g (ad 5) 1344 cdf, bI g (ad 6) 14 kf, bI g (ad 7) 14 sf, bI g (ad 8) 14 wf, bI g (ad 10) 96 tf, bI g (ad 23) 96 u_3] := hw
        refine lv_aload_n hx hb dX7_text_161 rfl (lv_at hl 0 rfl) ?_
        refine s_get (v := .int (if wrT tf tp then 1 else 0)) fb7 cf hw 0 rfl 21 rfl q942 rfl dX7_text_162 ?_
        refine lv_if_eq (tgt := 176) hx hb dX7_text_165 (by decide) (fun c165 => ?_) (fun c165 => ?_)
        · have c165 := b01_z c165
          refine lv_aload_n hx hb dX7_text_176 rfl (lv_at hl 0 rfl) ?_
          refine s_get (v := .ref (ad 0)) fb7 cf hw 0 rfl 0 rfl q921 rfl dX7_text_177 ?_
          refine lv_bipush (v := 9) hx hb dX7_text_180 (by decide) ?_
          refine s_iald (j := 9) cf hw 1 rfl (rfl) (by decide) rfl dX7_text_182 ?_
          refine lv_bipush (v := 14) hx hb dX7_text_183 (by decide) ?_
          refine lv_icmp_ne (tgt := 191) hx hb dX7_text_185 (by decide) (fun c185 => ?_) (fun c185 => ?_)
          · have hnt2 : nt < 14 := by rcases Nat.lt_or_ge nt 14 with z | z; exact z; exact absurd (by rw [hnt, show nt = 14 by omega]; rfl) c185
            have hlen : (tqF tf tp).2.1.length ≤ 96 := by have h1 := tq_len (tf := tf) (tp := tp) htp (by simpa using fun z => c165 (Or.inl z)); omega
            refine lv_aload_n hx hb dX7_text_191 rfl (lv_at hl 0 rfl) ?_
            refine s_get (v := .ref (ad 0)) fb7 cf hw 0 rfl 0 rfl q921 rfl dX7_text_192 ?_
            refine lv_bipush (v := 9) hx hb dX7_text_195 (by decide) ?_
            refine s_iald (j := 9) cf hw 1 rfl (rfl) (by decide) rfl dX7_text_197 ?_
            refine lv_topr (y := nI nt) (hnt) ?_
            refine lv_istore_n (lv' := [(1, .int (nI nt)), (0, .ref a)]) hx hb dX7_text_198 rfl hl (by decide) rfl (fun ls hl => ?_)
            refine lv_aload_n hx hb dX7_text_199 rfl (lv_at hl 1 rfl) ?_
            refine s_get (v := .ref (ad 6)) fb7 cf hw 0 rfl 6 rfl q927 rfl dX7_text_200 ?_
            refine lv_iload_n hx hb dX7_text_203 rfl (lv_at hl 0 rfl) ?_
            refine lv_aload_n hx hb dX7_text_204 rfl (lv_at hl 1 rfl) ?_
            refine s_get (v := .int (kyT tf tp)) fb7 cf hw 0 rfl 18 rfl q939 rfl dX7_text_205 ?_
            refine s_iast (j := nt) cf hw 3 rfl (rfl) (by omega) rfl dX7_text_208 (fun H locs hw => ?_)
            have hw : WD g A s H locs [bO a 7 (mF ad ik 0 (nI (atA tf tp (tqF tf tp).1)) (nI (bgA tf tp (tqF tf tp).1)) (tkA tf tp (tqF tf tp).1) (vaA tf tp (tqF tf tp).1) (nI (tqF tf tp).2.1.length) (nI (tqF tf tp).2.2.1) (kyT tf tp) (nI 0) (nI 0) (if wrT tf tp then 1 else 0) (nI (bwA tf tp (tqF tf tp).1)) wt), bI g (ad 0) 60 d, bI g (ad 5) 1344 cdf, bI g (ad 6) 14 (upd kf nt (kyT tf tp)), bI g (ad 7) 14 sf, bI g (ad 8) 14 wf, bI g (ad 10) 96 tf, bI g (ad 23) 96 u_3] := hw
            refine lv_aload_n hx hb dX7_text_209 rfl (lv_at hl 1 rfl) ?_
            refine s_get (v := .ref (ad 7)) fb7 cf hw 0 rfl 7 rfl q928 rfl dX7_text_210 ?_
            refine lv_iload_n hx hb dX7_text_213 rfl (lv_at hl 0 rfl) ?_
            refine lv_aload_n hx hb dX7_text_214 rfl (lv_at hl 1 rfl) ?_
            refine s_get (v := .int (nI (tqF tf tp).2.1.length)) fb7 cf hw 0 rfl 16 rfl q937 rfl dX7_text_215 ?_
            refine s_iast (j := nt) cf hw 4 rfl (rfl) (by omega) rfl dX7_text_218 (fun H locs hw => ?_)
            have hw : WD g A s H locs [bO a 7 (mF ad ik 0 (nI (atA tf tp (tqF tf tp).1)) (nI (bgA tf tp (tqF tf tp).1)) (tkA tf tp (tqF tf tp).1) (vaA tf tp (tqF tf tp).1) (nI (tqF tf tp).2.1.length) (nI (tqF tf tp).2.2.1) (kyT tf tp) (nI 0) (nI 0) (if wrT tf tp then 1 else 0) (nI (bwA tf tp (tqF tf tp).1)) wt), bI g (ad 0) 60 d, bI g (ad 5) 1344 cdf, bI g (ad 6) 14 (upd kf nt (kyT tf tp)), bI g (ad 7) 14 (upd sf nt (nI (tqF tf tp).2.1.length)), bI g (ad 8) 14 wf, bI g (ad 10) 96 tf, bI g (ad 23) 96 u_3] := hw
            refine lv_aload_n hx hb dX7_text_219 rfl (lv_at hl 1 rfl) ?_
            refine s_get (v := .ref (ad 8)) fb7 cf hw 0 rfl 8 rfl q929 rfl dX7_text_220 ?_
            refine lv_iload_n hx hb dX7_text_223 rfl (lv_at hl 0 rfl) ?_
            refine lv_aload_n hx hb dX7_text_224 rfl (lv_at hl 1 rfl) ?_
            refine s_get (v := .int (nI (tqF tf tp).2.2.1)) fb7 cf hw 0 rfl 17 rfl q938 rfl dX7_text_225 ?_
            refine s_iast (j := nt) cf hw 5 rfl (rfl) (by omega) rfl dX7_text_228 (fun H locs hw => ?_)
            have hw : WD g A s H locs [bO a 7 (mF ad ik 0 (nI (atA tf tp (tqF tf tp).1)) (nI (bgA tf tp (tqF tf tp).1)) (tkA tf tp (tqF tf tp).1) (vaA tf tp (tqF tf tp).1) (nI (tqF tf tp).2.1.length) (nI (tqF tf tp).2.2.1) (kyT tf tp) (nI 0) (nI 0) (if wrT tf tp then 1 else 0) (nI (bwA tf tp (tqF tf tp).1)) wt), bI g (ad 0) 60 d, bI g (ad 5) 1344 cdf, bI g (ad 6) 14 (upd kf nt (kyT tf tp)), bI g (ad 7) 14 (upd sf nt (nI (tqF tf tp).2.1.length)), bI g (ad 8) 14 (upd wf nt (nI (tqF tf tp).2.2.1)), bI g (ad 10) 96 tf, bI g (ad 23) 96 u_3] := hw
            refine lv_iconst (v := 0) hx hb dX7_text_229 (by decide) ?_
            refine lv_istore_n (lv' := [(2, .int 0), (1, .int (nI nt)), (0, .ref a)]) hx hb dX7_text_230 rfl hl (by decide) rfl (fun ls hl => ?_)
            have L231 : ∀ (fu : Nat) (i : Nat), (i ≤ (tqF tf tp).2.1.length) → ((tqF tf tp).2.1.length < i + fu) → ∀ (H : Heap) (locs : List Loc) (ls : Array Slot), WD g A s H locs [bO a 7 (mF ad ik 0 (nI (atA tf tp (tqF tf tp).1)) (nI (bgA tf tp (tqF tf tp).1)) (tkA tf tp (tqF tf tp).1) (vaA tf tp (tqF tf tp).1) (nI (tqF tf tp).2.1.length) (nI (tqF tf tp).2.2.1) (kyT tf tp) (nI 0) (nI 0) (if wrT tf tp then 1 else 0) (nI (bwA tf tp (tqF tf tp).1)) wt), bI g (ad 0) 60 d, bI g (ad 5) 1344 (cdR u_3 (96 * nt) i cdf), bI g (ad 6) 14 (upd kf nt (kyT tf tp)), bI g (ad 7) 14 (upd sf nt (nI (tqF tf tp).2.1.length)), bI g (ad 8) 14 (upd wf nt (nI (tqF tf tp).2.2.1)), bI g (ad 10) 96 tf, bI g (ad 23) 96 u_3] → lv_has ls 3 [(0, .ref a), (1, .int (nI nt)), (2, .int (nI i))] → W p l e (rmx 114 0 0) s m args below meth c H locs 0 0 Qf (F0 m 231 ls []) := by
              intro fu
              induction fu with
              | zero => intro i hi hfu; exfalso; omega
              | succ fu ih231 =>
                intro i hi hfu H locs ls hw hl
                refine lv_iload_n hx hb dX7_text_231 rfl (lv_at hl 2 rfl) ?_
                refine lv_aload_n hx hb dX7_text_232 rfl (lv_at hl 0 rfl) ?_
                refine s_get (v := .int (nI (tqF tf tp).2.1.length)) fb7 cf hw 0 rfl 16 rfl q937 rfl dX7_text_233 ?_
                refine lv_icmp_ge (tgt := 262) hx hb dX7_text_236 (by decide) (fun c236 => ?_) (fun c236 => ?_)
                · have hi2 : i = (tqF tf tp).2.1.length := by have := nI_le_of (by omega) c236 (by omega); omega
                  have hw : WD g A s H locs [bO a 7 (mF ad ik 0 (nI (atA tf tp (tqF tf tp).1)) (nI (bgA tf tp (tqF tf tp).1)) (tkA tf tp (tqF tf tp).1) (vaA tf tp (tqF tf tp).1) (nI (tqF tf tp).2.1.length) (nI (tqF tf tp).2.2.1) (kyT tf tp) (nI 0) (nI 0) (if wrT tf tp then 1 else 0) (nI (bwA tf tp (tqF tf tp).1)) wt), bI g (ad 0) 60 d, bI g (ad 5) 1344 (cdR u_3 (96 * nt) (tqF tf tp).2.1.length cdf), bI g (ad 6) 14 (upd kf nt (kyT tf tp)), bI g (ad 7) 14 (upd sf nt (nI (tqF tf tp).2.1.length)), bI g (ad 8) 14 (upd wf nt (nI (tqF tf tp).2.2.1)), bI g (ad 10) 96 tf, bI g (ad 23) 96 u_3] := by have q : cdR u_3 (96 * nt) (tqF tf tp).2.1.length cdf = cdR u_3 (96 * nt) i cdf := (by rw [hi2]); rw [q]; exact hw
                  refine lv_aload_n hx hb dX7_text_262 rfl (lv_at hl 0 rfl) ?_
                  refine s_get (v := .ref (ad 0)) fb7 cf hw 0 rfl 0 rfl q921 rfl dX7_text_263 ?_
                  refine lv_bipush (v := 9) hx hb dX7_text_266 (by decide) ?_
                  refine lv_dup2_11 hx hb dX7_text_268 rfl rfl ?_
                  refine s_iald (j := 9) cf hw 1 rfl (rfl) (by decide) rfl dX7_text_269 ?_
                  refine lv_iconst (v := 1) hx hb dX7_text_270 (by decide) ?_
                  refine lv_iadd hx hb dX7_text_271 ?_
                  refine s_iast (j := 9) cf hw 1 rfl (rfl) (by decide) rfl dX7_text_272 (fun H locs hw => ?_)
                  have hw : WD g A s H locs [bO a 7 (mF ad ik 0 (nI (atA tf tp (tqF tf tp).1)) (nI (bgA tf tp (tqF tf tp).1)) (tkA tf tp (tqF tf tp).1) (vaA tf tp (tqF tf tp).1) (nI (tqF tf tp).2.1.length) (nI (tqF tf tp).2.2.1) (kyT tf tp) (nI 0) (nI 0) (if wrT tf tp then 1 else 0) (nI (bwA tf tp (tqF tf tp).1)) wt), bI g (ad 0) 60 (upd d 9 ((d 9) + 1)), bI g (ad 5) 1344 (cdR u_3 (96 * nt) (tqF tf tp).2.1.length cdf), bI g (ad 6) 14 (upd kf nt (kyT tf tp)), bI g (ad 7) 14 (upd sf nt (nI (tqF tf tp).2.1.length)), bI g (ad 8) 14 (upd wf nt (nI (tqF tf tp).2.2.1)), bI g (ad 10) 96 tf, bI g (ad 23) 96 u_3] := hw
                  refine lv_iload_n hx hb dX7_text_273 rfl (lv_at hl 1 rfl) ?_
                  exact s_iret cf hr hlk u_3 (by have hok : okTx d tf tp := ⟨c165, c185⟩; rw [show (if okTx d tf tp then upd d 9 (d 9 + 1) else d) = upd d 9 (d 9 + 1) from if_pos hok, show (if okTx d tf tp then cdR u_3 (96 * nt) (tqF tf tp).2.1.length cdf else cdf) = cdR u_3 (96 * nt) (tqF tf tp).2.1.length cdf from if_pos hok, show (if okTx d tf tp then upd kf nt (kyT tf tp) else kf) = upd kf nt (kyT tf tp) from if_pos hok, show (if okTx d tf tp then upd sf nt (nI (tqF tf tp).2.1.length) else sf) = upd sf nt (nI (tqF tf tp).2.1.length) from if_pos hok, show (if okTx d tf tp then upd wf nt (nI (tqF tf tp).2.2.1) else wf) = upd wf nt (nI (tqF tf tp).2.2.1) from if_pos hok]; exact hw) (⟨by unfold R_text; rw [if_neg c165, if_neg c185]; exact hnt.symm, hcT⟩) (Nat.le_of_ble_eq_true rfl) (Nat.le_of_ble_eq_true rfl) dX7_text_274 hQ
                · have hlt : i < (tqF tf tp).2.1.length := nI_lt_of (by omega) c236 (by omega)
                  refine lv_aload_n hx hb dX7_text_239 rfl (lv_at hl 0 rfl) ?_
                  refine s_get (v := .ref (ad 5)) fb7 cf hw 0 rfl 5 rfl q926 rfl dX7_text_240 ?_
                  refine lv_bipush (v := 96) hx hb dX7_text_243 (by decide) ?_
                  refine lv_iload_n hx hb dX7_text_245 rfl (lv_at hl 1 rfl) ?_
                  refine lv_imul hx hb dX7_text_246 ?_
                  refine lv_iload_n hx hb dX7_text_247 rfl (lv_at hl 2 rfl) ?_
                  refine lv_iadd hx hb dX7_text_248 ?_
                  refine lv_aload_n hx hb dX7_text_249 rfl (lv_at hl 0 rfl) ?_
                  refine s_get (v := .ref (ad 23)) fb7 cf hw 0 rfl 23 rfl q944 rfl dX7_text_250 ?_
                  refine lv_iload_n hx hb dX7_text_253 rfl (lv_at hl 2 rfl) ?_
                  refine s_iald (j := i) cf hw 7 rfl (rfl) (by omega) rfl dX7_text_254 ?_
                  refine s_iast (j := (96 * nt + i)) cf hw 2 rfl (ix96 nt i) (by omega) rfl dX7_text_255 (fun H locs hw => ?_)
                  have hw : WD g A s H locs [bO a 7 (mF ad ik 0 (nI (atA tf tp (tqF tf tp).1)) (nI (bgA tf tp (tqF tf tp).1)) (tkA tf tp (tqF tf tp).1) (vaA tf tp (tqF tf tp).1) (nI (tqF tf tp).2.1.length) (nI (tqF tf tp).2.2.1) (kyT tf tp) (nI 0) (nI 0) (if wrT tf tp then 1 else 0) (nI (bwA tf tp (tqF tf tp).1)) wt), bI g (ad 0) 60 d, bI g (ad 5) 1344 (upd (cdR u_3 (96 * nt) i cdf) (96 * nt + i) (u_3 i)), bI g (ad 6) 14 (upd kf nt (kyT tf tp)), bI g (ad 7) 14 (upd sf nt (nI (tqF tf tp).2.1.length)), bI g (ad 8) 14 (upd wf nt (nI (tqF tf tp).2.2.1)), bI g (ad 10) 96 tf, bI g (ad 23) 96 u_3] := hw
                  refine lv_iinc (v := nI (i + 1)) (lv' := [(2, .int (nI (i + 1))), (0, .ref a), (1, .int (nI nt))]) hx hb dX7_text_256 hl (k := 2) rfl (nI_1 i) (by decide) rfl (fun ls hl => ?_)
                  refine lv_goto (tgt := 231) hx hb dX7_text_259 (by decide) ?_
                  exact ih231 (i + 1) (by omega) (by omega) _ _ _ hw (lv_sub hl [1, 2, 0] rfl)
            exact L231 ((tqF tf tp).2.1.length + 1) 0 (by omega) (by omega) _ _ _ hw (lv_sub hl [2, 1, 0] rfl)
          · refine lv_ldc hx hb hown (hts _ q1050) dX7_text_188 ?_
            exact s_iret cf hr hlk u_3 (by rw [show (if okTx d tf tp then upd d 9 (d 9 + 1) else d) = d from if_neg (fun z => z.2 c185), show (if okTx d tf tp then cdR u_3 (96 * nt) (tqF tf tp).2.1.length cdf else cdf) = cdf from if_neg (fun z => z.2 c185), show (if okTx d tf tp then upd kf nt (kyT tf tp) else kf) = kf from if_neg (fun z => z.2 c185), show (if okTx d tf tp then upd sf nt (nI (tqF tf tp).2.1.length) else sf) = sf from if_neg (fun z => z.2 c185), show (if okTx d tf tp then upd wf nt (nI (tqF tf tp).2.2.1) else wf) = wf from if_neg (fun z => z.2 c185)]; exact hw) (⟨by unfold R_text; rw [if_neg c165, if_pos c185], hcT⟩) (Nat.le_of_ble_eq_true rfl) (Nat.le_of_ble_eq_true rfl) dX7_text_190 hQ
        · have c165 := b01_n c165
          refine lv_bipush (v := (-100)) hx hb dX7_text_168 (by decide) ?_
          refine lv_aload_n hx hb dX7_text_170 rfl (lv_at hl 0 rfl) ?_
          refine s_get (v := .int (nI (bgA tf tp (tqF tf tp).1))) fb7 cf hw 0 rfl 13 rfl q934 rfl dX7_text_171 ?_
          refine lv_isub hx hb dX7_text_174 ?_
          exact s_iret cf hr hlk u_3 (by rw [show (if okTx d tf tp then upd d 9 (d 9 + 1) else d) = d from if_neg (fun z => z.1 c165), show (if okTx d tf tp then cdR u_3 (96 * nt) (tqF tf tp).2.1.length cdf else cdf) = cdf from if_neg (fun z => z.1 c165), show (if okTx d tf tp then upd kf nt (kyT tf tp) else kf) = kf from if_neg (fun z => z.1 c165), show (if okTx d tf tp then upd sf nt (nI (tqF tf tp).2.1.length) else sf) = sf from if_neg (fun z => z.1 c165), show (if okTx d tf tp then upd wf nt (nI (tqF tf tp).2.2.1) else wf) = wf from if_neg (fun z => z.1 c165)]; exact hw) (⟨by unfold R_text; rw [if_pos c165], hcT⟩) (Nat.le_of_ble_eq_true rfl) (Nat.le_of_ble_eq_true rfl) dX7_text_175 hQ
      refine lv_aload_n hx hb dX7_text_133 rfl (lv_at hl 0 rfl) ?_
      refine lv_aload_n hx hb dX7_text_134 rfl (lv_at hl 0 rfl) ?_
      refine s_get (v := .int (if (tqF tf tp).2.2.2 = true then 1 else 0)) fb7 cf hw 0 rfl 21 rfl q942 rfl dX7_text_135 ?_
      refine lv_if_ne (tgt := 148) hx hb dX7_text_138 (by decide) (fun c138 => ?_) (fun c138 => ?_)
      · have c138 := b01_n c138
        refine lv_iconst (v := 1) hx hb dX7_text_148 (by decide) ?_
        refine lv_topr (y := if wrT tf tp then 1 else 0) ((if_pos (Or.inl c138)).symm) ?_
        refine lv_goto (tgt := 153) hx hb dX7_text_149 (by decide) ?_
        exact L153  _ _ _ hw (lv_sub hl [0] rfl)
      · have c138 := b01_z c138
        refine lv_aload_n hx hb dX7_text_141 rfl (lv_at hl 0 rfl) ?_
        refine s_get (v := .int (tkA tf tp (tqF tf tp).1)) fb7 cf hw 0 rfl 14 rfl q935 rfl dX7_text_142 ?_
        refine lv_if_eq (tgt := 152) hx hb dX7_text_145 (by decide) (fun c145 => ?_) (fun c145 => ?_)
        · refine lv_iconst (v := 0) hx hb dX7_text_152 (by decide) ?_
          refine lv_topr (y := if wrT tf tp then 1 else 0) ((if_neg (fun z => by rcases z with y | y; exact c138 y; exact y c145)).symm) ?_
          exact L153  _ _ _ hw (lv_sub hl [0] rfl)
        · refine lv_iconst (v := 1) hx hb dX7_text_148 (by decide) ?_
          refine lv_topr (y := if wrT tf tp then 1 else 0) ((if_pos (Or.inr c145)).symm) ?_
          refine lv_goto (tgt := 153) hx hb dX7_text_149 (by decide) ?_
          exact L153  _ _ _ hw (lv_sub hl [0] rfl)
    refine lv_aload_n hx hb dX7_text_113 rfl (lv_at hl 0 rfl) ?_
    refine lv_aload_n hx hb dX7_text_114 rfl (lv_at hl 0 rfl) ?_
    refine s_get (v := .int (kyT tf tp)) fb7 cf hw 0 rfl 18 rfl q939 rfl dX7_text_115 ?_
    refine lv_if_lt (tgt := 125) hx hb dX7_text_118 (by decide) (fun c118 => ?_) (fun c118 => ?_)
    · refine lv_iconst (v := 0) hx hb dX7_text_125 (by decide) ?_
      refine s_callv (runV cf (m_goesBy (ik := ik) (ky := kyT tf tp) (wt := wt) (tf := tf) (tp := tp) htp (o := 0) (nn := 0) tq0 0) hw [0, 6] (by decide) rfl km_X7_goesBy ki_X7_goesBy q1284 (run_recv (ci := 7) (T := TX7) (N := 39) hw 0 rfl rfl) rfl rfl hl.1 rfl dX7_text_126) hw [0, 6] (by decide) rfl (fun _ => rfl) (fun u_5 H locs hp_6 hw => ?_)
      have hw : WD g A s H locs [bO a 7 (mF ad ik (nI tp) (nI (atA tf tp (goF (¬ (0 : Int32) = 0) tq0).1)) (nI (bgA tf tp (goF (¬ (0 : Int32) = 0) tq0).1)) (tkA tf tp (goF (¬ (0 : Int32) = 0) tq0).1) (vaA tf tp (goF (¬ (0 : Int32) = 0) tq0).1) (nI (goF (¬ (0 : Int32) = 0) tq0).2.1.length) (nI (goF (¬ (0 : Int32) = 0) tq0).2.2.1) (kyT tf tp) (nI 0) (nI 0) (if (goF (¬ (0 : Int32) = 0) tq0).2.2.2 = true then 1 else 0) (nI (bwA tf tp (goF (¬ (0 : Int32) = 0) tq0).1)) wt), bI g (ad 0) 60 d, bI g (ad 5) 1344 cdf, bI g (ad 6) 14 kf, bI g (ad 7) 14 sf, bI g (ad 8) 14 wf, bI g (ad 10) 96 tf, bI g (ad 23) 96 cz] := hw
      have ego : tq1 tf tp = goF (¬ (0 : Int32) = 0) tq0 := (goF_cg (x := ¬ (0 : Int32) = 0) (y := 0 ≤ kyT tf tp) ⟨fun z => absurd rfl z, fun z => absurd z (Int32.not_le.mpr c118)⟩).symm
      have hw : WD g A s H locs [bO a 7 (mF ad ik (nI tp) (nI (atA tf tp (tq1 tf tp).1)) (nI (bgA tf tp (tq1 tf tp).1)) (tkA tf tp (tq1 tf tp).1) (vaA tf tp (tq1 tf tp).1) (nI (tq1 tf tp).2.1.length) (nI (tq1 tf tp).2.2.1) (kyT tf tp) (nI 0) (nI 0) (if (tq1 tf tp).2.2.2 = true then 1 else 0) (nI (bwA tf tp (tq1 tf tp).1)) wt), bI g (ad 0) 60 d, bI g (ad 5) 1344 cdf, bI g (ad 6) 14 kf, bI g (ad 7) 14 sf, bI g (ad 8) 14 wf, bI g (ad 10) 96 tf, bI g (ad 23) 96 cz] := by rw [ego]; exact hw
      exact L129  _ _ _ hw (lv_sub hl [0] rfl)
    · refine lv_iconst (v := 1) hx hb dX7_text_121 (by decide) ?_
      refine lv_goto (tgt := 126) hx hb dX7_text_122 (by decide) ?_
      refine s_callv (runV cf (m_goesBy (ik := ik) (ky := kyT tf tp) (wt := wt) (tf := tf) (tp := tp) htp (o := 0) (nn := 0) tq0 1) hw [0, 6] (by decide) rfl km_X7_goesBy ki_X7_goesBy q1284 (run_recv (ci := 7) (T := TX7) (N := 39) hw 0 rfl rfl) rfl rfl hl.1 rfl dX7_text_126) hw [0, 6] (by decide) rfl (fun _ => rfl) (fun u_7 H locs hp_8 hw => ?_)
      have hw : WD g A s H locs [bO a 7 (mF ad ik (nI tp) (nI (atA tf tp (goF (¬ (1 : Int32) = 0) tq0).1)) (nI (bgA tf tp (goF (¬ (1 : Int32) = 0) tq0).1)) (tkA tf tp (goF (¬ (1 : Int32) = 0) tq0).1) (vaA tf tp (goF (¬ (1 : Int32) = 0) tq0).1) (nI (goF (¬ (1 : Int32) = 0) tq0).2.1.length) (nI (goF (¬ (1 : Int32) = 0) tq0).2.2.1) (kyT tf tp) (nI 0) (nI 0) (if (goF (¬ (1 : Int32) = 0) tq0).2.2.2 = true then 1 else 0) (nI (bwA tf tp (goF (¬ (1 : Int32) = 0) tq0).1)) wt), bI g (ad 0) 60 d, bI g (ad 5) 1344 cdf, bI g (ad 6) 14 kf, bI g (ad 7) 14 sf, bI g (ad 8) 14 wf, bI g (ad 10) 96 tf, bI g (ad 23) 96 cz] := hw
      have ego : tq1 tf tp = goF (¬ (1 : Int32) = 0) tq0 := (goF_cg (x := ¬ (1 : Int32) = 0) (y := 0 ≤ kyT tf tp) ⟨fun _ => Int32.not_lt.mp c118, fun _ => by decide⟩).symm
      have hw : WD g A s H locs [bO a 7 (mF ad ik (nI tp) (nI (atA tf tp (tq1 tf tp).1)) (nI (bgA tf tp (tq1 tf tp).1)) (tkA tf tp (tq1 tf tp).1) (vaA tf tp (tq1 tf tp).1) (nI (tq1 tf tp).2.1.length) (nI (tq1 tf tp).2.2.1) (kyT tf tp) (nI 0) (nI 0) (if (tq1 tf tp).2.2.2 = true then 1 else 0) (nI (bwA tf tp (tq1 tf tp).1)) wt), bI g (ad 0) 60 d, bI g (ad 5) 1344 cdf, bI g (ad 6) 14 kf, bI g (ad 7) 14 sf, bI g (ad 8) 14 wf, bI g (ad 10) 96 tf, bI g (ad 23) 96 cz] := by rw [ego]; exact hw
      exact L129  _ _ _ hw (lv_sub hl [0] rfl)
  refine lv_aload_n hx hb dX7_text_39 rfl (lv_at hl 0 rfl) ?_
  refine lv_aload_n hx hb dX7_text_40 rfl (lv_at hl 0 rfl) ?_
  refine s_get (v := .int (tkA tf tp tq0.1)) fb7 cf hw 0 rfl 14 rfl q935 rfl dX7_text_41 ?_
  refine lv_iconst (v := 1) hx hb dX7_text_44 (by decide) ?_
  refine lv_icmp_ne (tgt := 63) hx hb dX7_text_45 (by decide) (fun c45 => ?_) (fun c45 => ?_)
  · refine lv_aload_n hx hb dX7_text_63 rfl (lv_at hl 0 rfl) ?_
    refine s_get (v := .int (tkA tf tp tq0.1)) fb7 cf hw 0 rfl 14 rfl q935 rfl dX7_text_64 ?_
    refine lv_iconst (v := 1) hx hb dX7_text_67 (by decide) ?_
    refine lv_icmp_ne (tgt := 86) hx hb dX7_text_68 (by decide) (fun c68 => ?_) (fun c68 => ?_)
    · refine lv_aload_n hx hb dX7_text_86 rfl (lv_at hl 0 rfl) ?_
      refine s_get (v := .int (tkA tf tp tq0.1)) fb7 cf hw 0 rfl 14 rfl q935 rfl dX7_text_87 ?_
      refine lv_iconst (v := 1) hx hb dX7_text_90 (by decide) ?_
      refine lv_icmp_ne (tgt := 109) hx hb dX7_text_91 (by decide) (fun c91 => ?_) (fun c91 => ?_)
      · refine lv_iconst (v := (-1)) hx hb dX7_text_109 (by decide) ?_
        refine lv_topr (y := kyT tf tp) (by show _ = keyF (tkA tf tp 0) (vaA tf tp 0); unfold keyF; rw [if_neg (fun z => c45 z.1), if_neg (fun z => c68 z.1), if_neg (fun z => c91 z.1)]) ?_
        exact L110  _ _ _ hw (lv_sub hl [0] rfl)
      · refine lv_aload_n hx hb dX7_text_94 rfl (lv_at hl 0 rfl) ?_
        refine s_get (v := .long (vaA tf tp tq0.1)) fb7 cf hw 0 rfl 15 rfl q936 rfl dX7_text_95 ?_
        refine lv_ldc2 hx hb hown (hts _ q1283) dX7_text_98 ?_
        refine lv_toplr (y := (125042 : Int32).toInt64) (by decide) ?_
        refine W.lcmp hx hb dX7_text_101 ?_
        refine lv_if_ne (tgt := 109) hx hb dX7_text_102 (by decide) (fun c102 => ?_) (fun c102 => ?_)
        · refine lv_iconst (v := (-1)) hx hb dX7_text_109 (by decide) ?_
          refine lv_topr (y := kyT tf tp) (by show _ = keyF (tkA tf tp 0) (vaA tf tp 0); unfold keyF; rw [if_neg (fun z => c45 z.1), if_neg (fun z => c68 z.1), if_neg (fun z => c102 ((lg_cmp_eq _ _).mpr z.2))]) ?_
          exact L110  _ _ _ hw (lv_sub hl [0] rfl)
        · refine lv_iconst (v := 2) hx hb dX7_text_105 (by decide) ?_
          refine lv_topr (y := kyT tf tp) (by show _ = keyF (tkA tf tp 0) (vaA tf tp 0); unfold keyF; rw [if_neg (fun z => c45 z.1), if_neg (fun z => c68 z.1), if_pos ⟨c91, (lg_cmp_eq _ _).mp c102⟩]) ?_
          refine lv_goto (tgt := 110) hx hb dX7_text_106 (by decide) ?_
          exact L110  _ _ _ hw (lv_sub hl [0] rfl)
    · refine lv_aload_n hx hb dX7_text_71 rfl (lv_at hl 0 rfl) ?_
      refine s_get (v := .long (vaA tf tp tq0.1)) fb7 cf hw 0 rfl 15 rfl q936 rfl dX7_text_72 ?_
      refine lv_ldc2 hx hb hown (hts _ q1282) dX7_text_75 ?_
      refine lv_toplr (y := (4514 : Int32).toInt64) (by decide) ?_
      refine W.lcmp hx hb dX7_text_78 ?_
      refine lv_if_ne (tgt := 86) hx hb dX7_text_79 (by decide) (fun c79 => ?_) (fun c79 => ?_)
      · refine lv_aload_n hx hb dX7_text_86 rfl (lv_at hl 0 rfl) ?_
        refine s_get (v := .int (tkA tf tp tq0.1)) fb7 cf hw 0 rfl 14 rfl q935 rfl dX7_text_87 ?_
        refine lv_iconst (v := 1) hx hb dX7_text_90 (by decide) ?_
        refine lv_icmp_ne (tgt := 109) hx hb dX7_text_91 (by decide) (fun c91 => ?_) (fun c91 => ?_)
        · refine lv_iconst (v := (-1)) hx hb dX7_text_109 (by decide) ?_
          refine lv_topr (y := kyT tf tp) (by show _ = keyF (tkA tf tp 0) (vaA tf tp 0); unfold keyF; rw [if_neg (fun z => c45 z.1), if_neg (fun z => c79 ((lg_cmp_eq _ _).mpr z.2)), if_neg (fun z => c91 z.1)]) ?_
          exact L110  _ _ _ hw (lv_sub hl [0] rfl)
        · refine lv_aload_n hx hb dX7_text_94 rfl (lv_at hl 0 rfl) ?_
          refine s_get (v := .long (vaA tf tp tq0.1)) fb7 cf hw 0 rfl 15 rfl q936 rfl dX7_text_95 ?_
          refine lv_ldc2 hx hb hown (hts _ q1283) dX7_text_98 ?_
          refine lv_toplr (y := (125042 : Int32).toInt64) (by decide) ?_
          refine W.lcmp hx hb dX7_text_101 ?_
          refine lv_if_ne (tgt := 109) hx hb dX7_text_102 (by decide) (fun c102 => ?_) (fun c102 => ?_)
          · refine lv_iconst (v := (-1)) hx hb dX7_text_109 (by decide) ?_
            refine lv_topr (y := kyT tf tp) (by show _ = keyF (tkA tf tp 0) (vaA tf tp 0); unfold keyF; rw [if_neg (fun z => c45 z.1), if_neg (fun z => c79 ((lg_cmp_eq _ _).mpr z.2)), if_neg (fun z => c102 ((lg_cmp_eq _ _).mpr z.2))]) ?_
            exact L110  _ _ _ hw (lv_sub hl [0] rfl)
          · refine lv_iconst (v := 2) hx hb dX7_text_105 (by decide) ?_
            refine lv_topr (y := kyT tf tp) (by show _ = keyF (tkA tf tp 0) (vaA tf tp 0); unfold keyF; rw [if_neg (fun z => c45 z.1), if_neg (fun z => c79 ((lg_cmp_eq _ _).mpr z.2)), if_pos ⟨c91, (lg_cmp_eq _ _).mp c102⟩]) ?_
            refine lv_goto (tgt := 110) hx hb dX7_text_106 (by decide) ?_
            exact L110  _ _ _ hw (lv_sub hl [0] rfl)
      · refine lv_iconst (v := 1) hx hb dX7_text_82 (by decide) ?_
        refine lv_topr (y := kyT tf tp) (by show _ = keyF (tkA tf tp 0) (vaA tf tp 0); unfold keyF; rw [if_neg (fun z => c45 z.1), if_pos ⟨c68, (lg_cmp_eq _ _).mp c79⟩]) ?_
        refine lv_goto (tgt := 110) hx hb dX7_text_83 (by decide) ?_
        exact L110  _ _ _ hw (lv_sub hl [0] rfl)
  · refine lv_aload_n hx hb dX7_text_48 rfl (lv_at hl 0 rfl) ?_
    refine s_get (v := .long (vaA tf tp tq0.1)) fb7 cf hw 0 rfl 15 rfl q936 rfl dX7_text_49 ?_
    refine lv_ldc2 hx hb hown (hts _ q1281) dX7_text_52 ?_
    refine lv_toplr (y := (4637 : Int32).toInt64) (by decide) ?_
    refine W.lcmp hx hb dX7_text_55 ?_
    refine lv_if_ne (tgt := 63) hx hb dX7_text_56 (by decide) (fun c56 => ?_) (fun c56 => ?_)
    · refine lv_aload_n hx hb dX7_text_63 rfl (lv_at hl 0 rfl) ?_
      refine s_get (v := .int (tkA tf tp tq0.1)) fb7 cf hw 0 rfl 14 rfl q935 rfl dX7_text_64 ?_
      refine lv_iconst (v := 1) hx hb dX7_text_67 (by decide) ?_
      refine lv_icmp_ne (tgt := 86) hx hb dX7_text_68 (by decide) (fun c68 => ?_) (fun c68 => ?_)
      · refine lv_aload_n hx hb dX7_text_86 rfl (lv_at hl 0 rfl) ?_
        refine s_get (v := .int (tkA tf tp tq0.1)) fb7 cf hw 0 rfl 14 rfl q935 rfl dX7_text_87 ?_
        refine lv_iconst (v := 1) hx hb dX7_text_90 (by decide) ?_
        refine lv_icmp_ne (tgt := 109) hx hb dX7_text_91 (by decide) (fun c91 => ?_) (fun c91 => ?_)
        · refine lv_iconst (v := (-1)) hx hb dX7_text_109 (by decide) ?_
          refine lv_topr (y := kyT tf tp) (by show _ = keyF (tkA tf tp 0) (vaA tf tp 0); unfold keyF; rw [if_neg (fun z => c56 ((lg_cmp_eq _ _).mpr z.2)), if_neg (fun z => c68 z.1), if_neg (fun z => c91 z.1)]) ?_
          exact L110  _ _ _ hw (lv_sub hl [0] rfl)
        · refine lv_aload_n hx hb dX7_text_94 rfl (lv_at hl 0 rfl) ?_
          refine s_get (v := .long (vaA tf tp tq0.1)) fb7 cf hw 0 rfl 15 rfl q936 rfl dX7_text_95 ?_
          refine lv_ldc2 hx hb hown (hts _ q1283) dX7_text_98 ?_
          refine lv_toplr (y := (125042 : Int32).toInt64) (by decide) ?_
          refine W.lcmp hx hb dX7_text_101 ?_
          refine lv_if_ne (tgt := 109) hx hb dX7_text_102 (by decide) (fun c102 => ?_) (fun c102 => ?_)
          · refine lv_iconst (v := (-1)) hx hb dX7_text_109 (by decide) ?_
            refine lv_topr (y := kyT tf tp) (by show _ = keyF (tkA tf tp 0) (vaA tf tp 0); unfold keyF; rw [if_neg (fun z => c56 ((lg_cmp_eq _ _).mpr z.2)), if_neg (fun z => c68 z.1), if_neg (fun z => c102 ((lg_cmp_eq _ _).mpr z.2))]) ?_
            exact L110  _ _ _ hw (lv_sub hl [0] rfl)
          · refine lv_iconst (v := 2) hx hb dX7_text_105 (by decide) ?_
            refine lv_topr (y := kyT tf tp) (by show _ = keyF (tkA tf tp 0) (vaA tf tp 0); unfold keyF; rw [if_neg (fun z => c56 ((lg_cmp_eq _ _).mpr z.2)), if_neg (fun z => c68 z.1), if_pos ⟨c91, (lg_cmp_eq _ _).mp c102⟩]) ?_
            refine lv_goto (tgt := 110) hx hb dX7_text_106 (by decide) ?_
            exact L110  _ _ _ hw (lv_sub hl [0] rfl)
      · refine lv_aload_n hx hb dX7_text_71 rfl (lv_at hl 0 rfl) ?_
        refine s_get (v := .long (vaA tf tp tq0.1)) fb7 cf hw 0 rfl 15 rfl q936 rfl dX7_text_72 ?_
        refine lv_ldc2 hx hb hown (hts _ q1282) dX7_text_75 ?_
        refine lv_toplr (y := (4514 : Int32).toInt64) (by decide) ?_
        refine W.lcmp hx hb dX7_text_78 ?_
        refine lv_if_ne (tgt := 86) hx hb dX7_text_79 (by decide) (fun c79 => ?_) (fun c79 => ?_)
        · refine lv_aload_n hx hb dX7_text_86 rfl (lv_at hl 0 rfl) ?_
          refine s_get (v := .int (tkA tf tp tq0.1)) fb7 cf hw 0 rfl 14 rfl q935 rfl dX7_text_87 ?_
          refine lv_iconst (v := 1) hx hb dX7_text_90 (by decide) ?_
          refine lv_icmp_ne (tgt := 109) hx hb dX7_text_91 (by decide) (fun c91 => ?_) (fun c91 => ?_)
          · refine lv_iconst (v := (-1)) hx hb dX7_text_109 (by decide) ?_
            refine lv_topr (y := kyT tf tp) (by show _ = keyF (tkA tf tp 0) (vaA tf tp 0); unfold keyF; rw [if_neg (fun z => c56 ((lg_cmp_eq _ _).mpr z.2)), if_neg (fun z => c79 ((lg_cmp_eq _ _).mpr z.2)), if_neg (fun z => c91 z.1)]) ?_
            exact L110  _ _ _ hw (lv_sub hl [0] rfl)
          · refine lv_aload_n hx hb dX7_text_94 rfl (lv_at hl 0 rfl) ?_
            refine s_get (v := .long (vaA tf tp tq0.1)) fb7 cf hw 0 rfl 15 rfl q936 rfl dX7_text_95 ?_
            refine lv_ldc2 hx hb hown (hts _ q1283) dX7_text_98 ?_
            refine lv_toplr (y := (125042 : Int32).toInt64) (by decide) ?_
            refine W.lcmp hx hb dX7_text_101 ?_
            refine lv_if_ne (tgt := 109) hx hb dX7_text_102 (by decide) (fun c102 => ?_) (fun c102 => ?_)
            · refine lv_iconst (v := (-1)) hx hb dX7_text_109 (by decide) ?_
              refine lv_topr (y := kyT tf tp) (by show _ = keyF (tkA tf tp 0) (vaA tf tp 0); unfold keyF; rw [if_neg (fun z => c56 ((lg_cmp_eq _ _).mpr z.2)), if_neg (fun z => c79 ((lg_cmp_eq _ _).mpr z.2)), if_neg (fun z => c102 ((lg_cmp_eq _ _).mpr z.2))]) ?_
              exact L110  _ _ _ hw (lv_sub hl [0] rfl)
            · refine lv_iconst (v := 2) hx hb dX7_text_105 (by decide) ?_
              refine lv_topr (y := kyT tf tp) (by show _ = keyF (tkA tf tp 0) (vaA tf tp 0); unfold keyF; rw [if_neg (fun z => c56 ((lg_cmp_eq _ _).mpr z.2)), if_neg (fun z => c79 ((lg_cmp_eq _ _).mpr z.2)), if_pos ⟨c91, (lg_cmp_eq _ _).mp c102⟩]) ?_
              refine lv_goto (tgt := 110) hx hb dX7_text_106 (by decide) ?_
              exact L110  _ _ _ hw (lv_sub hl [0] rfl)
        · refine lv_iconst (v := 1) hx hb dX7_text_82 (by decide) ?_
          refine lv_topr (y := kyT tf tp) (by show _ = keyF (tkA tf tp 0) (vaA tf tp 0); unfold keyF; rw [if_neg (fun z => c56 ((lg_cmp_eq _ _).mpr z.2)), if_pos ⟨c68, (lg_cmp_eq _ _).mp c79⟩]) ?_
          refine lv_goto (tgt := 110) hx hb dX7_text_83 (by decide) ?_
          exact L110  _ _ _ hw (lv_sub hl [0] rfl)
    · refine lv_iconst (v := 0) hx hb dX7_text_59 (by decide) ?_
      refine lv_topr (y := kyT tf tp) (by show _ = keyF (tkA tf tp 0) (vaA tf tp 0); unfold keyF; rw [if_pos ⟨c45, (lg_cmp_eq _ _).mp c56⟩]) ?_
      refine lv_goto (tgt := 110) hx hb dX7_text_60 (by decide) ?_
      exact L110  _ _ _ hw (lv_sub hl [0] rfl)
