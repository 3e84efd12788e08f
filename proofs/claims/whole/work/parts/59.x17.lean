set_option maxRecDepth 100000 in
set_option maxHeartbeats 4000000 in
theorem x_compare {l : Launch} {g : GG} {t : Nat} {lad ad : Nat → Nat} {d cn : DD} {nm st_ : DD} {tr : Nat → Option Nat} {txb : va_W} {ft : TXC} (hF : FitAt g tr txb (cn 0) ft) (hFo : okF ft) (hI : InvH d) {n : Nat} (hn : d 0 = nI n) (hn10 : n ≤ 10) {ni : Nat} (hni : d 1 = nI ni) (h9 : ni ≤ 9999) {o t2 t3 : Nat} {ch : Nat → Nat} {kp tp wt : Int32} {ad2 : Nat → Nat} {d2 cn2 : DD} {sa pa : Nat → Nat} {so sz nu isn : DD} {pl : Nat → DD} (hsh : ShOK so sz pl nu isn) {df : DD} {j m_ : Nat} (hj : j < 4) (hnn : ¬ so j < 0) (hm24 : m_ ≤ 24) : Ct l g yX6_compare cX6_compare 4 (Option.none : Option Jvm.ClassFile.FieldType) 6 0 0 [.ref o, .ref (sa j)] [bO t2 4 (tF (lad 0) ad2 (d2 0) (d2 9) (d2 5) (d2 6) (d2 7) (d2 1) (d2 8)), bI g (ad2 1) 10 (col d2 0), bI g (ad2 2) 10 (col d2 1), bI g (ad2 3) 10 (col d2 2), bI g (ad2 4) 10 (col d2 3), bI g (ad2 5) 10 (col d2 4), bI g (ad2 6) 3 (rulF d2), bI g (ad2 7) 3 cn2, bO t 4 (tF (lad 0) ad (d 0) (d 9) (d 5) (d 6) (d 7) (d 1) (d 8)), bI g (ad 1) 10 (col d 0), bI g (ad 2) 10 (col d 1), bI g (ad 3) 10 (col d 2), bI g (ad 4) 10 (col d 3), bI g (ad 5) 10 (col d 4), bI g (ad 6) 3 (rulF d), bI g (ad 7) 3 cn, bO (lad 0) 0 ([.ref (lad 1), .ref (lad 2), .ref (lad 3)]), bR g 4 (lad 1) 14 tr, bI g (lad 2) 6 nm, bI g (lad 3) 96 st_, txb, bO o 6 (cF (lad 0) t t3 t2 ch kp tp wt), bO (sa j) 2 ([.ref (pa j), .int (so j), .int (nI m_)]), bI g (pa j) 24 (pl j), bI g (ch 12) 10 df] (QV g (fun (_ : DD × DD × DD × DD) => True) (fun u => [bO t2 4 (tF (lad 0) ad2 (u.2.2.1 0) (u.2.2.1 9) (u.2.2.1 5) (u.2.2.1 6) (u.2.2.1 7) (u.2.2.1 1) (u.2.2.1 8)), bI g (ad2 1) 10 (col u.2.2.1 0), bI g (ad2 2) 10 (col u.2.2.1 1), bI g (ad2 3) 10 (col u.2.2.1 2), bI g (ad2 4) 10 (col u.2.2.1 3), bI g (ad2 5) 10 (col u.2.2.1 4), bI g (ad2 6) 3 (rulF u.2.2.1), bI g (ad2 7) 3 u.2.2.2, bO t 4 (tF (lad 0) ad (d 0) (d 9) (d 5) (d 6) (d 7) (d 1) (d 8)), bI g (ad 1) 10 (col d 0), bI g (ad 2) 10 (col d 1), bI g (ad 3) 10 (col d 2), bI g (ad 4) 10 (col d 3), bI g (ad 5) 10 (col d 4), bI g (ad 6) 3 (rulF d), bI g (ad 7) 3 cn, bO (lad 0) 0 ([.ref (lad 1), .ref (lad 2), .ref (lad 3)]), bR g 4 (lad 1) 14 tr, bI g (lad 2) 6 u.1, bI g (lad 3) 96 u.2.1, txb, bO o 6 (cF (lad 0) t t3 t2 ch kp tp wt), bO (sa j) 2 ([.ref (pa j), .int (so j), .int (nI m_)]), bI g (pa j) 24 (pl j), bI g (ch 12) 10 (likeA ft d nu isn (24 * j) m_ (fun _ => 0))])) := by
  refine Ct.of (by decide) rfl ?_
  intro p e s m args below meth c A H locs ls Qf cf hr hlk hnm hQ hw hl
  have hx := cf.1
  have hb := cf.2.1
  have hml := cf.2.2.1
  have hown := cf.2.2.2.1
  have hts := cf.2.2.2.2
  have hw : WD g A s H locs [bO t2 4 (tF (lad 0) ad2 (d2 0) (d2 9) (d2 5) (d2 6) (d2 7) (d2 1) (d2 8)), bI g (ad2 1) 10 (col d2 0), bI g (ad2 2) 10 (col d2 1), bI g (ad2 3) 10 (col d2 2), bI g (ad2 4) 10 (col d2 3), bI g (ad2 5) 10 (col d2 4), bI g (ad2 6) 3 (rulF d2), bI g (ad2 7) 3 cn2, bO t 4 (tF (lad 0) ad (d 0) (d 9) (d 5) (d 6) (d 7) (d 1) (d 8)), bI g (ad 1) 10 (col d 0), bI g (ad 2) 10 (col d 1), bI g (ad 3) 10 (col d 2), bI g (ad 4) 10 (col d 3), bI g (ad 5) 10 (col d 4), bI g (ad 6) 3 (rulF d), bI g (ad 7) 3 cn, bO (lad 0) 0 ([.ref (lad 1), .ref (lad 2), .ref (lad 3)]), bR g 4 (lad 1) 14 tr, bI g (lad 2) 6 nm, bI g (lad 3) 96 st_, txb, bO o 6 (cF (lad 0) t t3 t2 ch kp tp wt), bO (sa j) 2 ([.ref (pa j), .int (so j), .int (nI m_)]), bI g (pa j) 24 (pl j), bI g (ch 12) 10 df] := hw
  have hl : lv_has ls 4 [(0, .ref o), (1, .ref (sa j))] := hl
  refine lv_aload_n hx hb dX6_compare_0 rfl (lv_at hl 0 rfl) ?_
  refine s_get (v := .ref (ch 12)) fb6 cf hw 21 rfl 12 rfl q318 rfl dX6_compare_1 ?_
  refine lv_iconst (v := 0) hx hb dX6_compare_4 (by decide) ?_
  refine s_callv (runS cf (x_fill (x := ch 12) (n := 10) (f := df) rfl (by omega) 0) hw [24] (by decide) rfl km_J7_fill_53178 ks_J7_fill_53178 q605 rfl rfl hl.1 rfl dX6_compare_5) hw [24] (by decide) rfl (fun _ => rfl) (fun u_1 H locs hp_2 hw => ?_)
  have hw : WD g A s H locs [bO t2 4 (tF (lad 0) ad2 (d2 0) (d2 9) (d2 5) (d2 6) (d2 7) (d2 1) (d2 8)), bI g (ad2 1) 10 (col d2 0), bI g (ad2 2) 10 (col d2 1), bI g (ad2 3) 10 (col d2 2), bI g (ad2 4) 10 (col d2 3), bI g (ad2 5) 10 (col d2 4), bI g (ad2 6) 3 (rulF d2), bI g (ad2 7) 3 cn2, bO t 4 (tF (lad 0) ad (d 0) (d 9) (d 5) (d 6) (d 7) (d 1) (d 8)), bI g (ad 1) 10 (col d 0), bI g (ad 2) 10 (col d 1), bI g (ad 3) 10 (col d 2), bI g (ad 4) 10 (col d 3), bI g (ad 5) 10 (col d 4), bI g (ad 6) 3 (rulF d), bI g (ad 7) 3 cn, bO (lad 0) 0 ([.ref (lad 1), .ref (lad 2), .ref (lad 3)]), bR g 4 (lad 1) 14 tr, bI g (lad 2) 6 nm, bI g (lad 3) 96 st_, txb, bO o 6 (cF (lad 0) t t3 t2 ch kp tp wt), bO (sa j) 2 ([.ref (pa j), .int (so j), .int (nI m_)]), bI g (pa j) 24 (pl j), bI g (ch 12) 10 (fun _ => 0)] := hw
  refine lv_aload_n hx hb dX6_compare_8 rfl (lv_at hl 0 rfl) ?_
  refine s_get (v := .ref t2) fb6 cf hw 21 rfl 3 rfl q309 rfl dX6_compare_9 ?_
  refine lv_aload_n hx hb dX6_compare_12 rfl (lv_at hl 0 rfl) ?_
  refine s_get (v := .ref t) fb6 cf hw 21 rfl 1 rfl q307 rfl dX6_compare_13 ?_
  refine s_callv (runVN cf (x_become (t := t2) (lad := lad) (ad := ad2) (d := d2) (cn := cn2) (t2 := t) (ad2 := ad) (d2 := d) (cn2 := cn)) hw [0, 1, 2, 3, 4, 5, 6, 7, 8, 9, 10, 11, 12, 13, 14, 15] (by decide) rfl km_X4_become ki_X4_become q541 (run_recv (ci := 4) (T := TX4) (N := 15) hw 0 rfl rfl) rfl rfl hl.1 rfl dX6_compare_16) hw [0, 1, 2, 3, 4, 5, 6, 7, 8, 9, 10, 11, 12, 13, 14, 15] (by decide) rfl (fun _ => rfl) (fun u_3 H locs hp_4 hw => ?_)
  have hw : WD g A s H locs [bO t2 4 (tF (lad 0) ad2 (d 0) (d 9) (d 5) (d 6) (d 7) (d 1) (d 8)), bI g (ad2 1) 10 (col d 0), bI g (ad2 2) 10 (col d 1), bI g (ad2 3) 10 (col d 2), bI g (ad2 4) 10 (col d 3), bI g (ad2 5) 10 (col d 4), bI g (ad2 6) 3 (rulF d), bI g (ad2 7) 3 cn, bO t 4 (tF (lad 0) ad (d 0) (d 9) (d 5) (d 6) (d 7) (d 1) (d 8)), bI g (ad 1) 10 (col d 0), bI g (ad 2) 10 (col d 1), bI g (ad 3) 10 (col d 2), bI g (ad 4) 10 (col d 3), bI g (ad 5) 10 (col d 4), bI g (ad 6) 3 (rulF d), bI g (ad 7) 3 cn, bO (lad 0) 0 ([.ref (lad 1), .ref (lad 2), .ref (lad 3)]), bR g 4 (lad 1) 14 tr, bI g (lad 2) 6 nm, bI g (lad 3) 96 st_, txb, bO o 6 (cF (lad 0) t t3 t2 ch kp tp wt), bO (sa j) 2 ([.ref (pa j), .int (so j), .int (nI m_)]), bI g (pa j) 24 (pl j), bI g (ch 12) 10 (fun _ => 0)] := hw
  refine lv_iconst (v := 0) hx hb dX6_compare_19 (by decide) ?_
  refine lv_istore_n (lv' := [(2, .int 0), (0, .ref o), (1, .ref (sa j))]) hx hb dX6_compare_20 rfl hl (by decide) rfl (fun ls hl => ?_)
  have L21 : ∀ (fu : Nat) (i : Nat) (nm st_ : DD), (i ≤ m_) → (m_ < i + fu) → ∀ (H : Heap) (locs : List Loc) (ls : Array Slot), WD g A s H locs [bO t2 4 (tF (lad 0) ad2 ((nightsF ft i d) 0) ((nightsF ft i d) 9) ((nightsF ft i d) 5) ((nightsF ft i d) 6) ((nightsF ft i d) 7) ((nightsF ft i d) 1) ((nightsF ft i d) 8)), bI g (ad2 1) 10 (col (nightsF ft i d) 0), bI g (ad2 2) 10 (col (nightsF ft i d) 1), bI g (ad2 3) 10 (col (nightsF ft i d) 2), bI g (ad2 4) 10 (col (nightsF ft i d) 3), bI g (ad2 5) 10 (col (nightsF ft i d) 4), bI g (ad2 6) 3 (rulF (nightsF ft i d)), bI g (ad2 7) 3 cn, bO t 4 (tF (lad 0) ad (d 0) (d 9) (d 5) (d 6) (d 7) (d 1) (d 8)), bI g (ad 1) 10 (col d 0), bI g (ad 2) 10 (col d 1), bI g (ad 3) 10 (col d 2), bI g (ad 4) 10 (col d 3), bI g (ad 5) 10 (col d 4), bI g (ad 6) 3 (rulF d), bI g (ad 7) 3 cn, bO (lad 0) 0 ([.ref (lad 1), .ref (lad 2), .ref (lad 3)]), bR g 4 (lad 1) 14 tr, bI g (lad 2) 6 nm, bI g (lad 3) 96 st_, txb, bO o 6 (cF (lad 0) t t3 t2 ch kp tp wt), bO (sa j) 2 ([.ref (pa j), .int (so j), .int (nI m_)]), bI g (pa j) 24 (pl j), bI g (ch 12) 10 (likeA ft d nu isn (24 * j) i (fun _ => 0))] → lv_has ls 4 [(0, .ref o), (1, .ref (sa j)), (2, .int (nI i))] → W p l e (rmx 6 0 0) s m args below meth c H locs 0 0 Qf (F0 m 21 ls []) := by
    intro fu
    induction fu with
    | zero => intro i nm st_ hi hfu3; exfalso; omega
    | succ fu ih21 =>
      intro i nm st_ hi hfu3 H locs ls hw hl
      have hIk : InvH (nightsF ft i d) := inv_nights hI
      refine lv_iload_n hx hb dX6_compare_21 rfl (lv_at hl 2 rfl) ?_
      refine lv_aload_n hx hb dX6_compare_22 rfl (lv_at hl 1 rfl) ?_
      refine s_getN (v := .int (nI m_)) fb2 cf hw 22 rfl 2 rfl q263 rfl dX6_compare_23 ?_
      refine lv_icmp_ge (tgt := 98) hx hb dX6_compare_26 (by decide) (fun c26 => ?_) (fun c26 => ?_)
      · have hi2 : m_ = i := by have := nI_le_of (by omega) c26 (by omega); omega
        have hw : WD g A s H locs [bO t2 4 (tF (lad 0) ad2 ((nightsF ft i d) 0) ((nightsF ft i d) 9) ((nightsF ft i d) 5) ((nightsF ft i d) 6) ((nightsF ft i d) 7) ((nightsF ft i d) 1) ((nightsF ft i d) 8)), bI g (ad2 1) 10 (col (nightsF ft i d) 0), bI g (ad2 2) 10 (col (nightsF ft i d) 1), bI g (ad2 3) 10 (col (nightsF ft i d) 2), bI g (ad2 4) 10 (col (nightsF ft i d) 3), bI g (ad2 5) 10 (col (nightsF ft i d) 4), bI g (ad2 6) 3 (rulF (nightsF ft i d)), bI g (ad2 7) 3 cn, bO t 4 (tF (lad 0) ad (d 0) (d 9) (d 5) (d 6) (d 7) (d 1) (d 8)), bI g (ad 1) 10 (col d 0), bI g (ad 2) 10 (col d 1), bI g (ad 3) 10 (col d 2), bI g (ad 4) 10 (col d 3), bI g (ad 5) 10 (col d 4), bI g (ad 6) 3 (rulF d), bI g (ad 7) 3 cn, bO (lad 0) 0 ([.ref (lad 1), .ref (lad 2), .ref (lad 3)]), bR g 4 (lad 1) 14 tr, bI g (lad 2) 6 nm, bI g (lad 3) 96 st_, txb, bO o 6 (cF (lad 0) t t3 t2 ch kp tp wt), bO (sa j) 2 ([.ref (pa j), .int (so j), .int (nI m_)]), bI g (pa j) 24 (pl j), bI g (ch 12) 10 (likeA ft d nu isn (24 * j) m_ (fun _ => 0))] := by have q : likeA ft d nu isn (24 * j) m_ (fun _ => 0) = likeA ft d nu isn (24 * j) i (fun _ => 0) := (by rw [hi2]); rw [q]; exact hw
        exact s_vret cf hr hlk (nm, st_, (nightsF ft i d), cn) hw trivial (Nat.le_of_ble_eq_true rfl) (Nat.le_of_ble_eq_true rfl) dX6_compare_98 hQ
      · have hlt : i < m_ := nI_lt_of (by omega) c26 (by omega)
        have L84 : ∀ (H : Heap) (locs : List Loc) (ls : Array Slot), WD g A s H locs [bO t2 4 (tF (lad 0) ad2 ((nightsF ft i d) 0) ((nightsF ft i d) 9) ((nightsF ft i d) 5) ((nightsF ft i d) 6) ((nightsF ft i d) 7) ((nightsF ft i d) 1) ((nightsF ft i d) 8)), bI g (ad2 1) 10 (col (nightsF ft i d) 0), bI g (ad2 2) 10 (col (nightsF ft i d) 1), bI g (ad2 3) 10 (col (nightsF ft i d) 2), bI g (ad2 4) 10 (col (nightsF ft i d) 3), bI g (ad2 5) 10 (col (nightsF ft i d) 4), bI g (ad2 6) 3 (rulF (nightsF ft i d)), bI g (ad2 7) 3 cn, bO t 4 (tF (lad 0) ad (d 0) (d 9) (d 5) (d 6) (d 7) (d 1) (d 8)), bI g (ad 1) 10 (col d 0), bI g (ad 2) 10 (col d 1), bI g (ad 3) 10 (col d 2), bI g (ad 4) 10 (col d 3), bI g (ad 5) 10 (col d 4), bI g (ad 6) 3 (rulF d), bI g (ad 7) 3 cn, bO (lad 0) 0 ([.ref (lad 1), .ref (lad 2), .ref (lad 3)]), bR g 4 (lad 1) 14 tr, bI g (lad 2) 6 nm, bI g (lad 3) 96 st_, txb, bO o 6 (cF (lad 0) t t3 t2 ch kp tp wt), bO (sa j) 2 ([.ref (pa j), .int (so j), .int (nI m_)]), bI g (pa j) 24 (pl j), bI g (ch 12) 10 (likeA ft d nu isn (24 * j) (i + 1) (fun _ => 0))] → lv_has ls 4 [(0, .ref o), (1, .ref (sa j)), (2, .int (nI i))] → W p l e (rmx 6 0 0) s m args below meth c H locs 0 0 Qf (F0 m 84 ls []) := by
          intro   H locs ls hw hl
          refine lv_aload_n hx hb dX6_compare_84 rfl (lv_at hl 0 rfl) ?_
          refine s_get (v := .ref t2) fb6 cf hw 21 rfl 3 rfl q309 rfl dX6_compare_85 ?_
          refine lv_iconst (v := 1) hx hb dX6_compare_88 (by decide) ?_
          refine s_callv (runVN cf (x_pass (t := t2) (lad := lad) (ad := ad2) (d := (nightsF ft i d)) (cn := cn) (nm := nm) (st_ := st_) (tr := tr) (txb := txb) (ft := ft) hF hFo hIk (nightsF_1 (ft := ft) hni i) 1 (by omega)) hw [0, 1, 2, 3, 4, 5, 6, 7, 16, 17, 18, 19, 20] (by decide) rfl km_X4_pass ki_X4_pass q499 (run_recv (ci := 4) (T := TX4) (N := 15) hw 0 rfl rfl) rfl rfl hl.1 rfl dX6_compare_89) hw [0, 1, 2, 3, 4, 5, 6, 7, 16, 17, 18, 19, 20] (by decide) rfl (fun _ => rfl) (fun u_5 H locs hp_6 hw => ?_)
          have hw : WD g A s H locs [bO t2 4 (tF (lad 0) ad2 ((nightsF ft 1 (nightsF ft i d)) 0) ((nightsF ft 1 (nightsF ft i d)) 9) ((nightsF ft 1 (nightsF ft i d)) 5) ((nightsF ft 1 (nightsF ft i d)) 6) ((nightsF ft 1 (nightsF ft i d)) 7) ((nightsF ft 1 (nightsF ft i d)) 1) ((nightsF ft 1 (nightsF ft i d)) 8)), bI g (ad2 1) 10 (col (nightsF ft 1 (nightsF ft i d)) 0), bI g (ad2 2) 10 (col (nightsF ft 1 (nightsF ft i d)) 1), bI g (ad2 3) 10 (col (nightsF ft 1 (nightsF ft i d)) 2), bI g (ad2 4) 10 (col (nightsF ft 1 (nightsF ft i d)) 3), bI g (ad2 5) 10 (col (nightsF ft 1 (nightsF ft i d)) 4), bI g (ad2 6) 3 (rulF (nightsF ft 1 (nightsF ft i d))), bI g (ad2 7) 3 cn, bO t 4 (tF (lad 0) ad (d 0) (d 9) (d 5) (d 6) (d 7) (d 1) (d 8)), bI g (ad 1) 10 (col d 0), bI g (ad 2) 10 (col d 1), bI g (ad 3) 10 (col d 2), bI g (ad 4) 10 (col d 3), bI g (ad 5) 10 (col d 4), bI g (ad 6) 3 (rulF d), bI g (ad 7) 3 cn, bO (lad 0) 0 ([.ref (lad 1), .ref (lad 2), .ref (lad 3)]), bR g 4 (lad 1) 14 tr, bI g (lad 2) 6 u_5.1, bI g (lad 3) 96 u_5.2, txb, bO o 6 (cF (lad 0) t t3 t2 ch kp tp wt), bO (sa j) 2 ([.ref (pa j), .int (so j), .int (nI m_)]), bI g (pa j) 24 (pl j), bI g (ch 12) 10 (likeA ft d nu isn (24 * j) (i + 1) (fun _ => 0))] := hw
          have he : nightsF ft 1 (nightsF ft i d) = nightsF ft (i + 1) d := nights_1s
          have hw : WD g A s H locs [bO t2 4 (tF (lad 0) ad2 ((nightsF ft (i + 1) d) 0) ((nightsF ft (i + 1) d) 9) ((nightsF ft (i + 1) d) 5) ((nightsF ft (i + 1) d) 6) ((nightsF ft (i + 1) d) 7) ((nightsF ft (i + 1) d) 1) ((nightsF ft (i + 1) d) 8)), bI g (ad2 1) 10 (col (nightsF ft (i + 1) d) 0), bI g (ad2 2) 10 (col (nightsF ft (i + 1) d) 1), bI g (ad2 3) 10 (col (nightsF ft (i + 1) d) 2), bI g (ad2 4) 10 (col (nightsF ft (i + 1) d) 3), bI g (ad2 5) 10 (col (nightsF ft (i + 1) d) 4), bI g (ad2 6) 3 (rulF (nightsF ft (i + 1) d)), bI g (ad2 7) 3 cn, bO t 4 (tF (lad 0) ad (d 0) (d 9) (d 5) (d 6) (d 7) (d 1) (d 8)), bI g (ad 1) 10 (col d 0), bI g (ad 2) 10 (col d 1), bI g (ad 3) 10 (col d 2), bI g (ad 4) 10 (col d 3), bI g (ad 5) 10 (col d 4), bI g (ad 6) 3 (rulF d), bI g (ad 7) 3 cn, bO (lad 0) 0 ([.ref (lad 1), .ref (lad 2), .ref (lad 3)]), bR g 4 (lad 1) 14 tr, bI g (lad 2) 6 u_5.1, bI g (lad 3) 96 u_5.2, txb, bO o 6 (cF (lad 0) t t3 t2 ch kp tp wt), bO (sa j) 2 ([.ref (pa j), .int (so j), .int (nI m_)]), bI g (pa j) 24 (pl j), bI g (ch 12) 10 (likeA ft d nu isn (24 * j) (i + 1) (fun _ => 0))] := by rw [← he]; exact hw
          refine lv_iinc (v := nI (i + 1)) (lv' := [(2, .int (nI (i + 1))), (0, .ref o), (1, .ref (sa j))]) hx hb dX6_compare_92 hl (k := 2) rfl (nI_1 i) (by decide) rfl (fun ls hl => ?_)
          refine lv_goto (tgt := 21) hx hb dX6_compare_95 (by decide) ?_
          exact ih21 (i + 1) u_5.1 u_5.2 (by omega) (by omega) _ _ _ hw (lv_sub hl [1, 2, 0] rfl)
        refine lv_iconst (v := 0) hx hb dX6_compare_29 (by decide) ?_
        refine lv_istore_n (lv' := [(3, .int 0), (0, .ref o), (1, .ref (sa j)), (2, .int (nI i))]) hx hb dX6_compare_30 rfl hl (by decide) rfl (fun ls hl => ?_)
        have L31 : ∀ (fu : Nat) (h : Nat), (h ≤ n) → (isn (24 * j + i) = 0 → h = 0) → (n < h + fu) → ∀ (H : Heap) (locs : List Loc) (ls : Array Slot), WD g A s H locs [bO t2 4 (tF (lad 0) ad2 ((nightsF ft i d) 0) ((nightsF ft i d) 9) ((nightsF ft i d) 5) ((nightsF ft i d) 6) ((nightsF ft i d) 7) ((nightsF ft i d) 1) ((nightsF ft i d) 8)), bI g (ad2 1) 10 (col (nightsF ft i d) 0), bI g (ad2 2) 10 (col (nightsF ft i d) 1), bI g (ad2 3) 10 (col (nightsF ft i d) 2), bI g (ad2 4) 10 (col (nightsF ft i d) 3), bI g (ad2 5) 10 (col (nightsF ft i d) 4), bI g (ad2 6) 3 (rulF (nightsF ft i d)), bI g (ad2 7) 3 cn, bO t 4 (tF (lad 0) ad (d 0) (d 9) (d 5) (d 6) (d 7) (d 1) (d 8)), bI g (ad 1) 10 (col d 0), bI g (ad 2) 10 (col d 1), bI g (ad 3) 10 (col d 2), bI g (ad 4) 10 (col d 3), bI g (ad 5) 10 (col d 4), bI g (ad 6) 3 (rulF d), bI g (ad 7) 3 cn, bO (lad 0) 0 ([.ref (lad 1), .ref (lad 2), .ref (lad 3)]), bR g 4 (lad 1) 14 tr, bI g (lad 2) 6 nm, bI g (lad 3) 96 st_, txb, bO o 6 (cF (lad 0) t t3 t2 ch kp tp wt), bO (sa j) 2 ([.ref (pa j), .int (so j), .int (nI m_)]), bI g (pa j) 24 (pl j), bI g (ch 12) 10 (itn (likeS nu (24 * j) (nightsF ft i d) i) h (likeA ft d nu isn (24 * j) i (fun _ => 0)))] → lv_has ls 4 [(0, .ref o), (1, .ref (sa j)), (2, .int (nI i)), (3, .int (nI h))] → W p l e (rmx 6 0 0) s m args below meth c H locs 0 0 Qf (F0 m 31 ls []) := by
          intro fu
          induction fu with
          | zero => intro h hh hz hfh; exfalso; omega
          | succ fu ih31 =>
            intro h hh hz hfh H locs ls hw hl
            refine lv_iload_n hx hb dX6_compare_31 rfl (lv_at hl 3 rfl) ?_
            refine lv_aload_n hx hb dX6_compare_32 rfl (lv_at hl 0 rfl) ?_
            refine s_get (v := .ref t) fb6 cf hw 21 rfl 1 rfl q307 rfl dX6_compare_33 ?_
            refine s_getN (v := .int (d 0)) fb4 cf hw 8 rfl 8 rfl q174 rfl dX6_compare_36 ?_
            refine lv_icmp_ge (tgt := 84) hx hb dX6_compare_39 (by decide) (fun c39 => ?_) (fun c39 => ?_)
            · have hh2 : n = h := by rw [hn] at c39; have := nI_le_of (by omega) c39 (by omega); omega
              have hnz : ¬ isn (24 * j + i) = 0 ∨ n = 0 := by by_cases z : isn (24 * j + i) = 0; exact Or.inr (by have := hz z; omega); exact Or.inl z
              have hw : WD g A s H locs [bO t2 4 (tF (lad 0) ad2 ((nightsF ft i d) 0) ((nightsF ft i d) 9) ((nightsF ft i d) 5) ((nightsF ft i d) 6) ((nightsF ft i d) 7) ((nightsF ft i d) 1) ((nightsF ft i d) 8)), bI g (ad2 1) 10 (col (nightsF ft i d) 0), bI g (ad2 2) 10 (col (nightsF ft i d) 1), bI g (ad2 3) 10 (col (nightsF ft i d) 2), bI g (ad2 4) 10 (col (nightsF ft i d) 3), bI g (ad2 5) 10 (col (nightsF ft i d) 4), bI g (ad2 6) 3 (rulF (nightsF ft i d)), bI g (ad2 7) 3 cn, bO t 4 (tF (lad 0) ad (d 0) (d 9) (d 5) (d 6) (d 7) (d 1) (d 8)), bI g (ad 1) 10 (col d 0), bI g (ad 2) 10 (col d 1), bI g (ad 3) 10 (col d 2), bI g (ad 4) 10 (col d 3), bI g (ad 5) 10 (col d 4), bI g (ad 6) 3 (rulF d), bI g (ad 7) 3 cn, bO (lad 0) 0 ([.ref (lad 1), .ref (lad 2), .ref (lad 3)]), bR g 4 (lad 1) 14 tr, bI g (lad 2) 6 nm, bI g (lad 3) 96 st_, txb, bO o 6 (cF (lad 0) t t3 t2 ch kp tp wt), bO (sa j) 2 ([.ref (pa j), .int (so j), .int (nI m_)]), bI g (pa j) 24 (pl j), bI g (ch 12) 10 (likeA ft d nu isn (24 * j) (i + 1) (fun _ => 0))] := by have q : likeA ft d nu isn (24 * j) (i + 1) (fun _ => 0) = itn (likeS nu (24 * j) (nightsF ft i d) i) h (likeA ft d nu isn (24 * j) i (fun _ => 0)) := (by show likeK ft d nu isn (24 * j) i (likeA ft d nu isn (24 * j) i (fun _ => 0)) = _; unfold likeK; rw [nH_of hn hn10, ← hh2]; rcases hnz with z | z; rw [if_neg z]; rw [z]; exact ite_self _); rw [q]; exact hw
              exact L84  _ _ _ hw (lv_sub hl [0, 1, 2] rfl)
            · have hhl : h < n := by rw [hn] at c39; exact nI_lt_of (by omega) c39 (by omega)
              refine lv_aload_n hx hb dX6_compare_42 rfl (lv_at hl 1 rfl) ?_
              refine lv_iload_n hx hb dX6_compare_43 rfl (lv_at hl 2 rfl) ?_
              refine s_calli (runVN cf (x_isNum (sx := sa j) (px := pa j) (so_ := so j) (m_ := m_) hm24 (f := pl j) (nI i)) hw [22, 23] (by decide) rfl km_X2_isNumber ki_X2_isNumber q608 (run_recv (ci := 2) (T := TX2) (N := 3) hw 22 rfl rfl) rfl rfl hl.1 rfl dX6_compare_44) hw [22, 23] (by decide) rfl (fun _ => rfl) (fun r_9 u_7 H locs hp_8 hw => ?_)
              have hw : WD g A s H locs [bO t2 4 (tF (lad 0) ad2 ((nightsF ft i d) 0) ((nightsF ft i d) 9) ((nightsF ft i d) 5) ((nightsF ft i d) 6) ((nightsF ft i d) 7) ((nightsF ft i d) 1) ((nightsF ft i d) 8)), bI g (ad2 1) 10 (col (nightsF ft i d) 0), bI g (ad2 2) 10 (col (nightsF ft i d) 1), bI g (ad2 3) 10 (col (nightsF ft i d) 2), bI g (ad2 4) 10 (col (nightsF ft i d) 3), bI g (ad2 5) 10 (col (nightsF ft i d) 4), bI g (ad2 6) 3 (rulF (nightsF ft i d)), bI g (ad2 7) 3 cn, bO t 4 (tF (lad 0) ad (d 0) (d 9) (d 5) (d 6) (d 7) (d 1) (d 8)), bI g (ad 1) 10 (col d 0), bI g (ad 2) 10 (col d 1), bI g (ad 3) 10 (col d 2), bI g (ad 4) 10 (col d 3), bI g (ad 5) 10 (col d 4), bI g (ad 6) 3 (rulF d), bI g (ad 7) 3 cn, bO (lad 0) 0 ([.ref (lad 1), .ref (lad 2), .ref (lad 3)]), bR g 4 (lad 1) 14 tr, bI g (lad 2) 6 nm, bI g (lad 3) 96 st_, txb, bO o 6 (cF (lad 0) t t3 t2 ch kp tp wt), bO (sa j) 2 ([.ref (pa j), .int (so j), .int (nI m_)]), bI g (pa j) 24 (pl j), bI g (ch 12) 10 (itn (likeS nu (24 * j) (nightsF ft i d) i) h (likeA ft d nu isn (24 * j) i (fun _ => 0)))] := hw
              subst hp_8
              refine lv_if_eq (tgt := 84) hx hb dX6_compare_47 (by decide) (fun c47 => ?_) (fun c47 => ?_)
              · have c47 := b01_z c47
                have hz0 : isn (24 * j + i) = 0 := Decidable.byContradiction (fun z => c47 ((num_iff hsh hj hnn hlt hm24).mpr z))
                have hw : WD g A s H locs [bO t2 4 (tF (lad 0) ad2 ((nightsF ft i d) 0) ((nightsF ft i d) 9) ((nightsF ft i d) 5) ((nightsF ft i d) 6) ((nightsF ft i d) 7) ((nightsF ft i d) 1) ((nightsF ft i d) 8)), bI g (ad2 1) 10 (col (nightsF ft i d) 0), bI g (ad2 2) 10 (col (nightsF ft i d) 1), bI g (ad2 3) 10 (col (nightsF ft i d) 2), bI g (ad2 4) 10 (col (nightsF ft i d) 3), bI g (ad2 5) 10 (col (nightsF ft i d) 4), bI g (ad2 6) 3 (rulF (nightsF ft i d)), bI g (ad2 7) 3 cn, bO t 4 (tF (lad 0) ad (d 0) (d 9) (d 5) (d 6) (d 7) (d 1) (d 8)), bI g (ad 1) 10 (col d 0), bI g (ad 2) 10 (col d 1), bI g (ad 3) 10 (col d 2), bI g (ad 4) 10 (col d 3), bI g (ad 5) 10 (col d 4), bI g (ad 6) 3 (rulF d), bI g (ad 7) 3 cn, bO (lad 0) 0 ([.ref (lad 1), .ref (lad 2), .ref (lad 3)]), bR g 4 (lad 1) 14 tr, bI g (lad 2) 6 nm, bI g (lad 3) 96 st_, txb, bO o 6 (cF (lad 0) t t3 t2 ch kp tp wt), bO (sa j) 2 ([.ref (pa j), .int (so j), .int (nI m_)]), bI g (pa j) 24 (pl j), bI g (ch 12) 10 (likeA ft d nu isn (24 * j) (i + 1) (fun _ => 0))] := by have q : likeA ft d nu isn (24 * j) (i + 1) (fun _ => 0) = itn (likeS nu (24 * j) (nightsF ft i d) i) h (likeA ft d nu isn (24 * j) i (fun _ => 0)) := (by show likeK ft d nu isn (24 * j) i (likeA ft d nu isn (24 * j) i (fun _ => 0)) = _; unfold likeK; rw [if_pos hz0, hz hz0]; rfl); rw [q]; exact hw
                exact L84  _ _ _ hw (lv_sub hl [0, 1, 2] rfl)
              · have c47 := b01_n c47
                have hnz : ¬ isn (24 * j + i) = 0 := (num_iff hsh hj hnn hlt hm24).mp c47
                refine lv_aload_n hx hb dX6_compare_50 rfl (lv_at hl 0 rfl) ?_
                refine s_get (v := .ref (ch 12)) fb6 cf hw 21 rfl 12 rfl q318 rfl dX6_compare_51 ?_
                refine lv_iload_n hx hb dX6_compare_54 rfl (lv_at hl 3 rfl) ?_
                refine lv_dup2_11 hx hb dX6_compare_55 rfl rfl ?_
                refine s_iald (j := h) cf hw 24 rfl (rfl) (by omega) rfl dX6_compare_56 ?_
                refine lv_aload_n hx hb dX6_compare_57 rfl (lv_at hl 0 rfl) ?_
                refine s_get (v := .ref t2) fb6 cf hw 21 rfl 3 rfl q309 rfl dX6_compare_58 ?_
                refine s_getN (v := .ref (ad2 4)) fb4 cf hw 0 rfl 4 rfl q165 rfl dX6_compare_61 ?_
                refine lv_iload_n hx hb dX6_compare_64 rfl (lv_at hl 3 rfl) ?_
                refine s_iald (j := h) cf hw 4 rfl (rfl) (by omega) rfl dX6_compare_65 ?_
                refine lv_topr (y := (nightsF ft i d) (10 + 5 * h + 3)) (rfl) ?_
                refine lv_aload_n hx hb dX6_compare_66 rfl (lv_at hl 1 rfl) ?_
                refine s_getN (v := .ref (pa j)) fb2 cf hw 22 rfl 0 rfl q259 rfl dX6_compare_67 ?_
                refine lv_iload_n hx hb dX6_compare_70 rfl (lv_at hl 2 rfl) ?_
                refine s_iald (j := i) cf hw 23 rfl (rfl) (by omega) rfl dX6_compare_71 ?_
                refine lv_topr (y := nu (24 * j + i)) (pl_num hsh hj hnn (by omega) hnz) ?_
                refine lv_isub hx hb dX6_compare_72 ?_
                refine va_mabs hx hb (by rw [hml]; exact hl.1.symm) hown (hts _ q617) (hts _ ks_J9_abs_0f7a4) (hts _ km_J9_abs_0f7a4.1) (hts _ km_J9_abs_0f7a4.2.1) (Nat.le_of_ble_eq_true rfl) (Nat.le_of_ble_eq_true rfl) (Nat.le_of_ble_eq_true rfl) (Nat.le_of_ble_eq_true rfl) dX6_compare_73 ?_
                refine lv_topr (y := sizeF (nightsF ft i d (10 + 5 * h + 3) - nu (24 * j + i))) (abs_size _) ?_
                refine lv_iadd hx hb dX6_compare_76 ?_
                refine s_iast (j := h) cf hw 24 rfl (rfl) (by omega) rfl dX6_compare_77 (fun H locs hw => ?_)
                have hw : WD g A s H locs [bO t2 4 (tF (lad 0) ad2 ((nightsF ft i d) 0) ((nightsF ft i d) 9) ((nightsF ft i d) 5) ((nightsF ft i d) 6) ((nightsF ft i d) 7) ((nightsF ft i d) 1) ((nightsF ft i d) 8)), bI g (ad2 1) 10 (col (nightsF ft i d) 0), bI g (ad2 2) 10 (col (nightsF ft i d) 1), bI g (ad2 3) 10 (col (nightsF ft i d) 2), bI g (ad2 4) 10 (col (nightsF ft i d) 3), bI g (ad2 5) 10 (col (nightsF ft i d) 4), bI g (ad2 6) 3 (rulF (nightsF ft i d)), bI g (ad2 7) 3 cn, bO t 4 (tF (lad 0) ad (d 0) (d 9) (d 5) (d 6) (d 7) (d 1) (d 8)), bI g (ad 1) 10 (col d 0), bI g (ad 2) 10 (col d 1), bI g (ad 3) 10 (col d 2), bI g (ad 4) 10 (col d 3), bI g (ad 5) 10 (col d 4), bI g (ad 6) 3 (rulF d), bI g (ad 7) 3 cn, bO (lad 0) 0 ([.ref (lad 1), .ref (lad 2), .ref (lad 3)]), bR g 4 (lad 1) 14 tr, bI g (lad 2) 6 nm, bI g (lad 3) 96 st_, txb, bO o 6 (cF (lad 0) t t3 t2 ch kp tp wt), bO (sa j) 2 ([.ref (pa j), .int (so j), .int (nI m_)]), bI g (pa j) 24 (pl j), bI g (ch 12) 10 (upd (itn (likeS nu (24 * j) (nightsF ft i d) i) h (likeA ft d nu isn (24 * j) i (fun _ => 0))) h (((itn (likeS nu (24 * j) (nightsF ft i d) i) h (likeA ft d nu isn (24 * j) i (fun _ => 0))) h) + (sizeF (nightsF ft i d (10 + 5 * h + 3) - nu (24 * j + i)))))] := hw
                have hw : WD g A s H locs [bO t2 4 (tF (lad 0) ad2 ((nightsF ft i d) 0) ((nightsF ft i d) 9) ((nightsF ft i d) 5) ((nightsF ft i d) 6) ((nightsF ft i d) 7) ((nightsF ft i d) 1) ((nightsF ft i d) 8)), bI g (ad2 1) 10 (col (nightsF ft i d) 0), bI g (ad2 2) 10 (col (nightsF ft i d) 1), bI g (ad2 3) 10 (col (nightsF ft i d) 2), bI g (ad2 4) 10 (col (nightsF ft i d) 3), bI g (ad2 5) 10 (col (nightsF ft i d) 4), bI g (ad2 6) 3 (rulF (nightsF ft i d)), bI g (ad2 7) 3 cn, bO t 4 (tF (lad 0) ad (d 0) (d 9) (d 5) (d 6) (d 7) (d 1) (d 8)), bI g (ad 1) 10 (col d 0), bI g (ad 2) 10 (col d 1), bI g (ad 3) 10 (col d 2), bI g (ad 4) 10 (col d 3), bI g (ad 5) 10 (col d 4), bI g (ad 6) 3 (rulF d), bI g (ad 7) 3 cn, bO (lad 0) 0 ([.ref (lad 1), .ref (lad 2), .ref (lad 3)]), bR g 4 (lad 1) 14 tr, bI g (lad 2) 6 nm, bI g (lad 3) 96 st_, txb, bO o 6 (cF (lad 0) t t3 t2 ch kp tp wt), bO (sa j) 2 ([.ref (pa j), .int (so j), .int (nI m_)]), bI g (pa j) 24 (pl j), bI g (ch 12) 10 (itn (likeS nu (24 * j) (nightsF ft i d) i) (h + 1) (likeA ft d nu isn (24 * j) i (fun _ => 0)))] := by exact hw
                refine lv_iinc (v := nI (h + 1)) (lv' := [(3, .int (nI (h + 1))), (0, .ref o), (1, .ref (sa j)), (2, .int (nI i))]) hx hb dX6_compare_78 hl (k := 3) rfl (nI_1 h) (by decide) rfl (fun ls hl => ?_)
                refine lv_goto (tgt := 31) hx hb dX6_compare_81 (by decide) ?_
                exact ih31 (h + 1) (by omega) (fun z => absurd z hnz) (by omega) _ _ _ hw (lv_sub hl [1, 2, 3, 0] rfl)
        exact L31 (n + 1) 0 (by omega) (fun _ => rfl) (by omega) _ _ _ hw (lv_sub hl [1, 2, 3, 0] rfl)
  exact L21 (m_ + 1) 0 nm st_ (by omega) (by omega) _ _ _ hw (lv_sub hl [1, 2, 0] rfl)
set_option maxRecDepth 100000 in
set_option maxHeartbeats 4000000 in
theorem x_feedOne {l : Launch} {g : GG} {t : Nat} {lad : Nat → Nat} {o t2 t3 : Nat} {ch : Nat → Nat} {kp wt : Int32} {tf : DD} {tn : Nat} (htn : tn + 4 ≤ 96) (w_ : Int32) : Ct l g yX6_feedOne cX6_feedOne 3 (Option.none : Option Jvm.ClassFile.FieldType) 0 0 0 [.ref o, .int w_] [bO o 6 (cF (lad 0) t t3 t2 ch kp (nI tn) wt), bI g (ch 6) 96 tf] (QV g (fun (_ : Unit) => True) (fun _ => [bO o 6 (cF (lad 0) t t3 t2 ch kp (nI (tn + 4)) wt), bI g (ch 6) 96 (itn (fun q f => upd f (tn + q) (((w_).toUInt32 >>> ((nI (24 - 8 * q)).toUInt32 &&& Int32.toUInt32 31)).toInt32 &&& 255)) 4 tf)])) := by
  refine Ct.of (by decide) rfl ?_
  intro p e s m args below meth c A H locs ls Qf cf hr hlk hnm hQ hw hl
  have hx := cf.1
  have hb := cf.2.1
  have hml := cf.2.2.1
  have hown := cf.2.2.2.1
  have hts := cf.2.2.2.2
  have hw : WD g A s H locs [bO o 6 (cF (lad 0) t t3 t2 ch kp (nI tn) wt), bI g (ch 6) 96 tf] := hw
  have hl : lv_has ls 3 [(0, .ref o), (1, .int w_)] := hl
  refine lv_bipush (v := 24) hx hb dX6_feedOne_0 (by decide) ?_
  refine lv_istore_n (lv' := [(2, .int 24), (0, .ref o), (1, .int w_)]) hx hb dX6_feedOne_2 rfl hl (by decide) rfl (fun ls hl => ?_)
  have L3 : ∀ (fu : Nat) (i : Nat), (i ≤ 4) → (4 < i + fu) → ∀ (H : Heap) (locs : List Loc) (ls : Array Slot), WD g A s H locs [bO o 6 (cF (lad 0) t t3 t2 ch kp (nI (tn + i)) wt), bI g (ch 6) 96 (itn (fun q f => upd f (tn + q) (((w_).toUInt32 >>> ((nI (24 - 8 * q)).toUInt32 &&& Int32.toUInt32 31)).toInt32 &&& 255)) i tf)] → lv_has ls 3 [(0, .ref o), (1, .int w_), (2, .int (nI (24 - 8 * i) - (if i = 4 then 8 else 0)))] → W p l e (rmx 0 0 0) s m args below meth c H locs 0 0 Qf (F0 m 3 ls []) := by
    intro fu
    induction fu with
    | zero => intro i hi hfu; exfalso; omega
    | succ fu ih3 =>
      intro i hi hfu H locs ls hw hl
      refine lv_iload_n hx hb dX6_feedOne_3 rfl (lv_at hl 2 rfl) ?_
      refine lv_if_lt (tgt := 48) hx hb dX6_feedOne_4 (by decide) (fun c4 => ?_) (fun c4 => ?_)
      · have hi2 : i = 4 := by rcases Nat.lt_or_ge i 4 with z | z; exact absurd c4 (by rw [if_neg (by omega), Int32.sub_zero]; exact nI_pos (by omega)); omega
        subst hi2
        exact s_vret cf hr hlk () hw trivial (Nat.le_of_ble_eq_true rfl) (Nat.le_of_ble_eq_true rfl) dX6_feedOne_48 hQ
      · have hlt : i < 4 := by rcases Nat.lt_or_ge i 4 with z | z; exact z; exact absurd (by rw [show i = 4 by omega]; decide) c4
        have hl : lv_has ls 3 [(0, .ref o), (1, .int w_), (2, .int (nI (24 - 8 * i)))] := by rw [show nI (24 - 8 * i) = nI (24 - 8 * i) - (if i = 4 then 8 else 0) by rw [if_neg (by omega), Int32.sub_zero]]; exact hl
        refine lv_aload_n hx hb dX6_feedOne_7 rfl (lv_at hl 0 rfl) ?_
        refine s_get (v := .int (nI (tn + i))) fb6 cf hw 0 rfl 7 rfl q313 rfl dX6_feedOne_8 ?_
        refine lv_bipush (v := 96) hx hb dX6_feedOne_11 (by decide) ?_
        refine lv_icmp_ge (tgt := 48) hx hb dX6_feedOne_13 (by decide) (fun c13 => ?_) (fun c13 => ?_)
        · exact absurd (nI_le_of (n := 96) (by omega) c13 (by omega)) (by omega)
        · refine lv_aload_n hx hb dX6_feedOne_16 rfl (lv_at hl 0 rfl) ?_
          refine s_get (v := .ref (ch 6)) fb6 cf hw 0 rfl 6 rfl q312 rfl dX6_feedOne_17 ?_
          refine lv_aload_n hx hb dX6_feedOne_20 rfl (lv_at hl 0 rfl) ?_
          refine s_get (v := .int (nI (tn + i))) fb6 cf hw 0 rfl 7 rfl q313 rfl dX6_feedOne_21 ?_
          refine lv_iload_n hx hb dX6_feedOne_24 rfl (lv_at hl 1 rfl) ?_
          refine lv_iload_n hx hb dX6_feedOne_25 rfl (lv_at hl 2 rfl) ?_
          refine lv_iushr (v := (w_.toUInt32 >>> ((nI (24 - 8 * i) : Int32).toUInt32 &&& Int32.toUInt32 31)).toInt32) hx hb dX6_feedOne_26 rfl ?_
          refine lv_sipush (v := 255) hx hb dX6_feedOne_27 (by decide) ?_
          refine lv_iand hx hb dX6_feedOne_30 ?_
          refine s_iast (j := (tn + i)) cf hw 1 rfl (rfl) (by omega) rfl dX6_feedOne_31 (fun H locs hw => ?_)
          have hw : WD g A s H locs [bO o 6 (cF (lad 0) t t3 t2 ch kp (nI (tn + i)) wt), bI g (ch 6) 96 (upd (itn (fun q f => upd f (tn + q) (((w_).toUInt32 >>> ((nI (24 - 8 * q)).toUInt32 &&& Int32.toUInt32 31)).toInt32 &&& 255)) i tf) (tn + i) (((w_.toUInt32 >>> ((nI (24 - 8 * i) : Int32).toUInt32 &&& Int32.toUInt32 31)).toInt32) &&& 255))] := hw
          refine lv_aload_n hx hb dX6_feedOne_32 rfl (lv_at hl 0 rfl) ?_
          refine lv_dup hx hb dX6_feedOne_33 rfl ?_
          refine s_get (v := .int (nI (tn + i))) fb6 cf hw 0 rfl 7 rfl q313 rfl dX6_feedOne_34 ?_
          refine lv_iconst (v := 1) hx hb dX6_feedOne_37 (by decide) ?_
          refine lv_iadd hx hb dX6_feedOne_38 ?_
          refine lv_topr (y := nI (tn + (i + 1))) (nI_1 (tn + i)) ?_
          refine s_put (v := .int (nI (tn + (i + 1)))) fb6 cf hw 0 rfl 7 rfl q313 rfl rfl rfl rfl dX6_feedOne_39 (fun H locs hw => ?_)
          have hw : WD g A s H locs [bO o 6 (cF (lad 0) t t3 t2 ch kp (nI (tn + (i + 1))) wt), bI g (ch 6) 96 (upd (itn (fun q f => upd f (tn + q) (((w_).toUInt32 >>> ((nI (24 - 8 * q)).toUInt32 &&& Int32.toUInt32 31)).toInt32 &&& 255)) i tf) (tn + i) (((w_.toUInt32 >>> ((nI (24 - 8 * i) : Int32).toUInt32 &&& Int32.toUInt32 31)).toInt32) &&& 255))] := hw
          refine lv_iinc (v := nI (24 - 8 * (i + 1)) - (if i + 1 = 4 then 8 else 0)) (lv' := [(2, .int (nI (24 - 8 * (i + 1)) - (if i + 1 = 4 then 8 else 0))), (0, .ref o), (1, .int w_)]) hx hb dX6_feedOne_42 hl (k := 2) rfl (by rcases (show i = 0 ∨ i = 1 ∨ i = 2 ∨ i = 3 by omega) with rfl | rfl | rfl | rfl <;> rfl) (by decide) rfl (fun ls hl => ?_)
          have hw : WD g A s H locs [bO o 6 (cF (lad 0) t t3 t2 ch kp (nI (tn + (i + 1))) wt), bI g (ch 6) 96 (itn (fun q f => upd f (tn + q) (((w_).toUInt32 >>> ((nI (24 - 8 * q)).toUInt32 &&& Int32.toUInt32 31)).toInt32 &&& 255)) (i + 1) tf)] := by exact hw
          refine lv_goto (tgt := 3) hx hb dX6_feedOne_45 (by decide) ?_
          exact ih3 (i + 1) (by omega) (by omega) _ _ _ hw (lv_sub hl [1, 2, 0] rfl)
  exact L3 5 0 (by omega) (by omega) _ _ _ hw (lv_sub hl [1, 2, 0] rfl)
set_option maxRecDepth 100000 in
set_option maxHeartbeats 4000000 in
theorem c_feed {l : Launch} {g : GG} {t : Nat} {lad : Nat → Nat} {o t2 t3 : Nat} {ch : Nat → Nat} {kp wt : Int32} {tf : DD} {tn : Nat} (htn : tn ≤ 96) (x y z : Int32) : Ct l g yX6_feed cX6_feed 4 (Option.some Jvm.ClassFile.FieldType.int) 1 0 0 [.ref o, .int x, .int y, .int z] [bO o 6 (cF (lad 0) t t3 t2 ch kp (nI tn) wt), bI g (ch 6) 96 tf] (QI g (fun r (_ : Unit) => r = if nI tn + 12 ≤ 96 then nI tn + 12 else -1000000003) (fun _ => [bO o 6 (cF (lad 0) t t3 t2 ch kp (if nI tn + 12 ≤ 96 then nI tn + 12 else nI tn) wt), bI g (ch 6) 96 (if nI tn + 12 ≤ 96 then feedF x y z tn 12 tf else tf)])) := by
  refine Ct.of (by decide) rfl ?_
  intro p e s m args below meth c A H locs ls Qf cf hr hlk hnm hQ hw hl
  have hx := cf.1
  have hb := cf.2.1
  have hml := cf.2.2.1
  have hown := cf.2.2.2.1
  have hts := cf.2.2.2.2
  have hw : WD g A s H locs [bO o 6 (cF (lad 0) t t3 t2 ch kp (nI tn) wt), bI g (ch 6) 96 tf] := hw
  have hl : lv_has ls 4 [(0, .ref o), (1, .int x), (2, .int y), (3, .int z)] := hl
  refine lv_aload_n hx hb dX6_feed_0 rfl (lv_at hl 0 rfl) ?_
  refine s_get (v := .int (nI tn)) fb6 cf hw 0 rfl 7 rfl q313 rfl dX6_feed_1 ?_
  refine lv_bipush (v := 12) hx hb dX6_feed_4 (by decide) ?_
  refine lv_iadd hx hb dX6_feed_6 ?_
  refine lv_bipush (v := 96) hx hb dX6_feed_7 (by decide) ?_
  refine lv_icmp_le (tgt := 15) hx hb dX6_feed_9 (by decide) (fun c9 => ?_) (fun c9 => ?_)
  · have htl : tn + 12 ≤ 96 := by rw [show nI tn + 12 = nI (tn + 12) from nI_add tn 12, show (96 : Int32) = nI 96 from rfl, nI_leI (by omega) (by omega)] at c9; exact c9
    refine lv_aload_n hx hb dX6_feed_15 rfl (lv_at hl 0 rfl) ?_
    refine lv_iload_n hx hb dX6_feed_16 rfl (lv_at hl 1 rfl) ?_
    refine s_callv (runV cf (x_feedOne (t := t) (lad := lad) (o := o) (t2 := t2) (t3 := t3) (ch := ch) (kp := kp) (wt := wt) (tf := tf) (tn := tn) (by omega) x) hw [0, 1] (by decide) rfl km_X6_feedOne ki_X6_feedOne q638 (run_recv (ci := 6) (T := TX6) (N := 13) hw 0 rfl rfl) rfl rfl hl.1 rfl dX6_feed_17) hw [0, 1] (by decide) rfl (fun _ => rfl) (fun u_1 H locs hp_2 hw => ?_)
    have hw : WD g A s H locs [bO o 6 (cF (lad 0) t t3 t2 ch kp (nI (tn + 4)) wt), bI g (ch 6) 96 (itn (fun q f => upd f (tn + q) (((x).toUInt32 >>> ((nI (24 - 8 * q)).toUInt32 &&& Int32.toUInt32 31)).toInt32 &&& 255)) 4 tf)] := hw
    refine lv_aload_n hx hb dX6_feed_20 rfl (lv_at hl 0 rfl) ?_
    refine lv_iload_n hx hb dX6_feed_21 rfl (lv_at hl 2 rfl) ?_
    refine s_callv (runV cf (x_feedOne (t := t) (lad := lad) (o := o) (t2 := t2) (t3 := t3) (ch := ch) (kp := kp) (wt := wt) (tf := itn (fun q f => upd f (tn + q) (((x).toUInt32 >>> ((nI (24 - 8 * q)).toUInt32 &&& Int32.toUInt32 31)).toInt32 &&& 255)) 4 tf) (tn := (tn + 4)) (by omega) y) hw [0, 1] (by decide) rfl km_X6_feedOne ki_X6_feedOne q638 (run_recv (ci := 6) (T := TX6) (N := 13) hw 0 rfl rfl) rfl rfl hl.1 rfl dX6_feed_22) hw [0, 1] (by decide) rfl (fun _ => rfl) (fun u_3 H locs hp_4 hw => ?_)
    have hw : WD g A s H locs [bO o 6 (cF (lad 0) t t3 t2 ch kp (nI ((tn + 4) + 4)) wt), bI g (ch 6) 96 (itn (fun q f => upd f ((tn + 4) + q) (((y).toUInt32 >>> ((nI (24 - 8 * q)).toUInt32 &&& Int32.toUInt32 31)).toInt32 &&& 255)) 4 (itn (fun q f => upd f (tn + q) (((x).toUInt32 >>> ((nI (24 - 8 * q)).toUInt32 &&& Int32.toUInt32 31)).toInt32 &&& 255)) 4 tf))] := hw
    refine lv_aload_n hx hb dX6_feed_25 rfl (lv_at hl 0 rfl) ?_
    refine lv_iload_n hx hb dX6_feed_26 rfl (lv_at hl 3 rfl) ?_
    refine s_callv (runV cf (x_feedOne (t := t) (lad := lad) (o := o) (t2 := t2) (t3 := t3) (ch := ch) (kp := kp) (wt := wt) (tf := itn (fun q f => upd f ((tn + 4) + q) (((y).toUInt32 >>> ((nI (24 - 8 * q)).toUInt32 &&& Int32.toUInt32 31)).toInt32 &&& 255)) 4 (itn (fun q f => upd f (tn + q) (((x).toUInt32 >>> ((nI (24 - 8 * q)).toUInt32 &&& Int32.toUInt32 31)).toInt32 &&& 255)) 4 tf)) (tn := ((tn + 4) + 4)) (by omega) z) hw [0, 1] (by decide) rfl km_X6_feedOne ki_X6_feedOne q638 (run_recv (ci := 6) (T := TX6) (N := 13) hw 0 rfl rfl) rfl rfl hl.1 rfl dX6_feed_27) hw [0, 1] (by decide) rfl (fun _ => rfl) (fun u_5 H locs hp_6 hw => ?_)
    have hw : WD g A s H locs [bO o 6 (cF (lad 0) t t3 t2 ch kp (nI (((tn + 4) + 4) + 4)) wt), bI g (ch 6) 96 (itn (fun q f => upd f (((tn + 4) + 4) + q) (((z).toUInt32 >>> ((nI (24 - 8 * q)).toUInt32 &&& Int32.toUInt32 31)).toInt32 &&& 255)) 4 (itn (fun q f => upd f ((tn + 4) + q) (((y).toUInt32 >>> ((nI (24 - 8 * q)).toUInt32 &&& Int32.toUInt32 31)).toInt32 &&& 255)) 4 (itn (fun q f => upd f (tn + q) (((x).toUInt32 >>> ((nI (24 - 8 * q)).toUInt32 &&& Int32.toUInt32 31)).toInt32 &&& 255)) 4 tf)))] := hw
    refine lv_aload_n hx hb dX6_feed_30 rfl (lv_at hl 0 rfl) ?_
    refine s_get (v := .int (nI (((tn + 4) + 4) + 4))) fb6 cf hw 0 rfl 7 rfl q313 rfl dX6_feed_31 ?_
    exact s_iret cf hr hlk () (by rw [if_pos c9, if_pos c9, show nI tn + 12 = nI (tn + 12) from nI_add tn 12]; exact hw) (by rw [if_pos c9]; exact (nI_add tn 12).symm) (Nat.le_of_ble_eq_true rfl) (Nat.le_of_ble_eq_true rfl) dX6_feed_34 hQ
  · refine lv_ldc hx hb hown (hts _ q362) dX6_feed_12 ?_
    exact s_iret cf hr hlk () (by rw [if_neg c9, if_neg c9]; exact hw) (by rw [if_neg c9]) (Nat.le_of_ble_eq_true rfl) (Nat.le_of_ble_eq_true rfl) dX6_feed_14 hQ
