set_option maxRecDepth 100000 in
set_option maxHeartbeats 4000000 in
theorem x_build {l : Launch} {g : GG} {t : Nat} {lad ad : Nat → Nat} {d cn : DD} {n : Nat} (hn : d 0 = nI n) (hn10 : n ≤ 10) (k_ st_ p_ c_ : Int32) : Ct l g yX4_build cX4_build 6 (Option.some Jvm.ClassFile.FieldType.int) 0 0 0 [.ref t, .int k_, .int st_, .int p_, .int c_] [bO t 4 (tF (lad 0) ad (d 0) (d 9) (d 5) (d 6) (d 7) (d 1) (d 8)), bI g (ad 1) 10 (col d 0), bI g (ad 2) 10 (col d 1), bI g (ad 3) 10 (col d 2), bI g (ad 4) 10 (col d 3), bI g (ad 5) 10 (col d 4), bI g (ad 6) 3 (rulF d), bI g (ad 7) 3 cn] (QI g (fun r (_ : Unit) => r = if d 0 = 10 then -1000000003 else d 0) (fun _ => [bO t 4 (tF (lad 0) ad ((if d 0 = 10 then d else buildF d k_ st_ p_ c_) 0) ((if d 0 = 10 then d else buildF d k_ st_ p_ c_) 9) ((if d 0 = 10 then d else buildF d k_ st_ p_ c_) 5) ((if d 0 = 10 then d else buildF d k_ st_ p_ c_) 6) ((if d 0 = 10 then d else buildF d k_ st_ p_ c_) 7) ((if d 0 = 10 then d else buildF d k_ st_ p_ c_) 1) ((if d 0 = 10 then d else buildF d k_ st_ p_ c_) 8)), bI g (ad 1) 10 (col (if d 0 = 10 then d else buildF d k_ st_ p_ c_) 0), bI g (ad 2) 10 (col (if d 0 = 10 then d else buildF d k_ st_ p_ c_) 1), bI g (ad 3) 10 (col (if d 0 = 10 then d else buildF d k_ st_ p_ c_) 2), bI g (ad 4) 10 (col (if d 0 = 10 then d else buildF d k_ st_ p_ c_) 3), bI g (ad 5) 10 (col (if d 0 = 10 then d else buildF d k_ st_ p_ c_) 4), bI g (ad 6) 3 (rulF (if d 0 = 10 then d else buildF d k_ st_ p_ c_)), bI g (ad 7) 3 cn])) := by
  refine Ct.of (by decide) rfl ?_
  intro p e s m args below meth c A H locs ls Qf cf hr hlk hnm hQ hw hl
  have hx := cf.1
  have hb := cf.2.1
  have hml := cf.2.2.1
  have hown := cf.2.2.2.1
  have hts := cf.2.2.2.2
  have hw : WD g A s H locs [bO t 4 (tF (lad 0) ad (d 0) (d 9) (d 5) (d 6) (d 7) (d 1) (d 8)), bI g (ad 1) 10 (col d 0), bI g (ad 2) 10 (col d 1), bI g (ad 3) 10 (col d 2), bI g (ad 4) 10 (col d 3), bI g (ad 5) 10 (col d 4), bI g (ad 6) 3 (rulF d), bI g (ad 7) 3 cn] := hw
  have hl : lv_has ls 6 [(0, .ref t), (1, .int k_), (2, .int st_), (3, .int p_), (4, .int c_)] := hl
  refine lv_aload_n hx hb dX4_build_0 rfl (lv_at hl 0 rfl) ?_
  refine s_get (v := .int (d 0)) fb4 cf hw 0 rfl 8 rfl q173 rfl dX4_build_1 ?_
  refine lv_istore (lv' := [(5, .int (d 0)), (0, .ref t), (1, .int k_), (2, .int st_), (3, .int p_), (4, .int c_)]) hx hb dX4_build_4 hl (by decide) rfl (fun ls hl => ?_)
  refine lv_iload hx hb dX4_build_6 (lv_at hl 0 rfl) ?_
  refine lv_bipush (v := 10) hx hb dX4_build_8 (by decide) ?_
  refine lv_icmp_lt (tgt := 16) hx hb dX4_build_10 (by decide) (fun c10 => ?_) (fun c10 => ?_)
  · have hlt : n < 10 := by rw [hn, show (10 : Int32) = nI 10 from rfl, nI_ltI (by omega) (by omega)] at c10; exact c10
    refine lv_aload_n hx hb dX4_build_16 rfl (lv_at hl 1 rfl) ?_
    refine s_get (v := .ref (ad 1)) fb4 cf hw 0 rfl 1 rfl q155 rfl dX4_build_17 ?_
    refine lv_iload hx hb dX4_build_20 (lv_at hl 0 rfl) ?_
    refine lv_iload_n hx hb dX4_build_22 rfl (lv_at hl 2 rfl) ?_
    refine s_iast (j := n) cf hw 1 rfl (hn) (by omega) rfl dX4_build_23 (fun H locs hw => ?_)
    have hw : WD g A s H locs [bO t 4 (tF (lad 0) ad (d 0) (d 9) (d 5) (d 6) (d 7) (d 1) (d 8)), bI g (ad 1) 10 (upd (col d 0) n k_), bI g (ad 2) 10 (col d 1), bI g (ad 3) 10 (col d 2), bI g (ad 4) 10 (col d 3), bI g (ad 5) 10 (col d 4), bI g (ad 6) 3 (rulF d), bI g (ad 7) 3 cn] := hw
    refine lv_aload_n hx hb dX4_build_24 rfl (lv_at hl 1 rfl) ?_
    refine s_get (v := .ref (ad 2)) fb4 cf hw 0 rfl 2 rfl q158 rfl dX4_build_25 ?_
    refine lv_iload hx hb dX4_build_28 (lv_at hl 0 rfl) ?_
    refine lv_iload_n hx hb dX4_build_30 rfl (lv_at hl 3 rfl) ?_
    refine s_iast (j := n) cf hw 2 rfl (hn) (by omega) rfl dX4_build_31 (fun H locs hw => ?_)
    have hw : WD g A s H locs [bO t 4 (tF (lad 0) ad (d 0) (d 9) (d 5) (d 6) (d 7) (d 1) (d 8)), bI g (ad 1) 10 (upd (col d 0) n k_), bI g (ad 2) 10 (upd (col d 1) n st_), bI g (ad 3) 10 (col d 2), bI g (ad 4) 10 (col d 3), bI g (ad 5) 10 (col d 4), bI g (ad 6) 3 (rulF d), bI g (ad 7) 3 cn] := hw
    refine lv_aload_n hx hb dX4_build_32 rfl (lv_at hl 1 rfl) ?_
    refine s_get (v := .ref (ad 3)) fb4 cf hw 0 rfl 3 rfl q161 rfl dX4_build_33 ?_
    refine lv_iload hx hb dX4_build_36 (lv_at hl 0 rfl) ?_
    refine lv_iload_n hx hb dX4_build_38 rfl (lv_at hl 4 rfl) ?_
    refine s_iast (j := n) cf hw 3 rfl (hn) (by omega) rfl dX4_build_39 (fun H locs hw => ?_)
    have hw : WD g A s H locs [bO t 4 (tF (lad 0) ad (d 0) (d 9) (d 5) (d 6) (d 7) (d 1) (d 8)), bI g (ad 1) 10 (upd (col d 0) n k_), bI g (ad 2) 10 (upd (col d 1) n st_), bI g (ad 3) 10 (upd (col d 2) n p_), bI g (ad 4) 10 (col d 3), bI g (ad 5) 10 (col d 4), bI g (ad 6) 3 (rulF d), bI g (ad 7) 3 cn] := hw
    refine lv_aload_n hx hb dX4_build_40 rfl (lv_at hl 1 rfl) ?_
    refine s_get (v := .ref (ad 4)) fb4 cf hw 0 rfl 4 rfl q163 rfl dX4_build_41 ?_
    refine lv_iload hx hb dX4_build_44 (lv_at hl 0 rfl) ?_
    refine lv_iload hx hb dX4_build_46 (lv_at hl 5 rfl) ?_
    refine s_iast (j := n) cf hw 4 rfl (hn) (by omega) rfl dX4_build_48 (fun H locs hw => ?_)
    have hw : WD g A s H locs [bO t 4 (tF (lad 0) ad (d 0) (d 9) (d 5) (d 6) (d 7) (d 1) (d 8)), bI g (ad 1) 10 (upd (col d 0) n k_), bI g (ad 2) 10 (upd (col d 1) n st_), bI g (ad 3) 10 (upd (col d 2) n p_), bI g (ad 4) 10 (upd (col d 3) n c_), bI g (ad 5) 10 (col d 4), bI g (ad 6) 3 (rulF d), bI g (ad 7) 3 cn] := hw
    refine lv_aload_n hx hb dX4_build_49 rfl (lv_at hl 1 rfl) ?_
    refine s_get (v := .ref (ad 5)) fb4 cf hw 0 rfl 5 rfl q166 rfl dX4_build_50 ?_
    refine lv_iload hx hb dX4_build_53 (lv_at hl 0 rfl) ?_
    refine lv_iconst (v := 0) hx hb dX4_build_55 (by decide) ?_
    refine s_iast (j := n) cf hw 5 rfl (hn) (by omega) rfl dX4_build_56 (fun H locs hw => ?_)
    have hw : WD g A s H locs [bO t 4 (tF (lad 0) ad (d 0) (d 9) (d 5) (d 6) (d 7) (d 1) (d 8)), bI g (ad 1) 10 (upd (col d 0) n k_), bI g (ad 2) 10 (upd (col d 1) n st_), bI g (ad 3) 10 (upd (col d 2) n p_), bI g (ad 4) 10 (upd (col d 3) n c_), bI g (ad 5) 10 (upd (col d 4) n 0), bI g (ad 6) 3 (rulF d), bI g (ad 7) 3 cn] := hw
    refine lv_aload_n hx hb dX4_build_57 rfl (lv_at hl 1 rfl) ?_
    refine lv_iload hx hb dX4_build_58 (lv_at hl 0 rfl) ?_
    refine lv_iconst (v := 1) hx hb dX4_build_60 (by decide) ?_
    refine lv_iadd hx hb dX4_build_61 ?_
    refine s_put (v := .int ((d 0) + 1)) fb4 cf hw 0 rfl 8 rfl q173 rfl rfl rfl rfl dX4_build_62 (fun H locs hw => ?_)
    have hw : WD g A s H locs [bO t 4 (tF (lad 0) ad ((d 0) + 1) (d 9) (d 5) (d 6) (d 7) (d 1) (d 8)), bI g (ad 1) 10 (upd (col d 0) n k_), bI g (ad 2) 10 (upd (col d 1) n st_), bI g (ad 3) 10 (upd (col d 2) n p_), bI g (ad 4) 10 (upd (col d 3) n c_), bI g (ad 5) 10 (upd (col d 4) n 0), bI g (ad 6) 3 (rulF d), bI g (ad 7) 3 cn] := hw
    refine lv_iload hx hb dX4_build_65 (lv_at hl 0 rfl) ?_
    exact s_iret cf hr hlk () (by rw [if_neg (lt10_ne c10)]; exact tw_wd (rest := []) (e := buildF d k_ st_ p_ c_) (tw_build hn hn10 k_ st_ p_ c_) hw) (by rw [if_neg (lt10_ne c10)]) (Nat.le_of_ble_eq_true rfl) (Nat.le_of_ble_eq_true rfl) dX4_build_67 hQ
  · refine lv_ldc hx hb hown (hts _ q361) dX4_build_13 ?_
    exact s_iret cf hr hlk () (by rw [if_pos (n10_eq hn hn10 c10)]; exact hw) (by rw [if_pos (n10_eq hn hn10 c10)]) (Nat.le_of_ble_eq_true rfl) (Nat.le_of_ble_eq_true rfl) dX4_build_15 hQ
set_option maxRecDepth 100000 in
set_option maxHeartbeats 4000000 in
theorem x_lot {l : Launch} {g : GG} {t : Nat} {lad ad : Nat → Nat} {d cn : DD} {n : Nat} (hn : d 0 = nI n) (hn10 : n ≤ 10) (hlt : n < 10) : Ct l g yX4_buildByLot cX4_buildByLot 5 (Option.none : Option Jvm.ClassFile.FieldType) 1 0 0 [.ref t] [bO t 4 (tF (lad 0) ad (d 0) (d 9) (d 5) (d 6) (d 7) (d 1) (d 8)), bI g (ad 1) 10 (col d 0), bI g (ad 2) 10 (col d 1), bI g (ad 3) 10 (col d 2), bI g (ad 4) 10 (col d 3), bI g (ad 5) 10 (col d 4), bI g (ad 6) 3 (rulF d), bI g (ad 7) 3 cn] (QV g (fun (_ : Unit) => True) (fun _ => [bO t 4 (tF (lad 0) ad ((lotF d) 0) ((lotF d) 9) ((lotF d) 5) ((lotF d) 6) ((lotF d) 7) ((lotF d) 1) ((lotF d) 8)), bI g (ad 1) 10 (col (lotF d) 0), bI g (ad 2) 10 (col (lotF d) 1), bI g (ad 3) 10 (col (lotF d) 2), bI g (ad 4) 10 (col (lotF d) 3), bI g (ad 5) 10 (col (lotF d) 4), bI g (ad 6) 3 (rulF (lotF d)), bI g (ad 7) 3 cn])) := by
  refine Ct.of (by decide) rfl ?_
  intro p e s m args below meth c A H locs ls Qf cf hr hlk hnm hQ hw hl
  have hx := cf.1
  have hb := cf.2.1
  have hml := cf.2.2.1
  have hown := cf.2.2.2.1
  have hts := cf.2.2.2.2
  have hw : WD g A s H locs [bO t 4 (tF (lad 0) ad (d 0) (d 9) (d 5) (d 6) (d 7) (d 1) (d 8)), bI g (ad 1) 10 (col d 0), bI g (ad 2) 10 (col d 1), bI g (ad 3) 10 (col d 2), bI g (ad 4) 10 (col d 3), bI g (ad 5) 10 (col d 4), bI g (ad 6) 3 (rulF d), bI g (ad 7) 3 cn] := hw
  have hl : lv_has ls 5 [(0, .ref t)] := hl
  refine lv_aload_n hx hb dX4_buildByLot_0 rfl (lv_at hl 0 rfl) ?_
  refine s_calli (runV cf (x_draw (cn := cn) (t := t) (lad := lad) (ad := ad) (d := d)) hw [0] (by decide) rfl km_X4_draw ki_X4_draw q467 (run_recv (ci := 4) (T := TX4) (N := 15) hw 0 rfl rfl) rfl rfl hl.1 rfl dX4_buildByLot_1) hw [0] (by decide) rfl (fun _ => rfl) (fun r_3 u_1 H locs hp_2 hw => ?_)
  have hw : WD g A s H locs [bO t 4 (tF (lad 0) ad ((drawF d) 0) ((drawF d) 9) ((drawF d) 5) ((drawF d) 6) ((drawF d) 7) ((drawF d) 1) ((drawF d) 8)), bI g (ad 1) 10 (col d 0), bI g (ad 2) 10 (col d 1), bI g (ad 3) 10 (col d 2), bI g (ad 4) 10 (col d 3), bI g (ad 5) 10 (col d 4), bI g (ad 6) 3 (rulF d), bI g (ad 7) 3 cn] := hw
  subst hp_2
  refine lv_bipush (v := 6) hx hb dX4_buildByLot_4 (by decide) ?_
  refine lv_irem hx hb dX4_buildByLot_6 (by decide) ?_
  refine lv_istore_n (lv' := [(1, .int ((dwF (drawF d 8)) - (dwF (drawF d 8)) / 6 * 6)), (0, .ref t)]) hx hb dX4_buildByLot_7 rfl hl (by decide) rfl (fun ls hl => ?_)
  refine lv_aload_n hx hb dX4_buildByLot_8 rfl (lv_at hl 1 rfl) ?_
  refine s_calli (runV cf (x_draw (cn := cn) (t := t) (lad := lad) (ad := ad) (d := (drawF d))) hw [0] (by decide) rfl km_X4_draw ki_X4_draw q467 (run_recv (ci := 4) (T := TX4) (N := 15) hw 0 rfl rfl) rfl rfl hl.1 rfl dX4_buildByLot_9) hw [0] (by decide) rfl (fun _ => rfl) (fun r_6 u_4 H locs hp_5 hw => ?_)
  have hw : WD g A s H locs [bO t 4 (tF (lad 0) ad ((drawF (drawF d)) 0) ((drawF (drawF d)) 9) ((drawF (drawF d)) 5) ((drawF (drawF d)) 6) ((drawF (drawF d)) 7) ((drawF (drawF d)) 1) ((drawF (drawF d)) 8)), bI g (ad 1) 10 (col d 0), bI g (ad 2) 10 (col d 1), bI g (ad 3) 10 (col d 2), bI g (ad 4) 10 (col d 3), bI g (ad 5) 10 (col d 4), bI g (ad 6) 3 (rulF d), bI g (ad 7) 3 cn] := hw
  subst hp_5
  refine lv_bipush (v := 100) hx hb dX4_buildByLot_12 (by decide) ?_
  refine lv_irem hx hb dX4_buildByLot_14 (by decide) ?_
  refine lv_istore_n (lv' := [(2, .int ((dwF (drawF (drawF d) 8)) - (dwF (drawF (drawF d) 8)) / 100 * 100)), (1, .int ((dwF (drawF d 8)) - (dwF (drawF d 8)) / 6 * 6)), (0, .ref t)]) hx hb dX4_buildByLot_15 rfl hl (by decide) rfl (fun ls hl => ?_)
  refine lv_aload_n hx hb dX4_buildByLot_16 rfl (lv_at hl 2 rfl) ?_
  refine s_calli (runV cf (x_draw (cn := cn) (t := t) (lad := lad) (ad := ad) (d := (drawF (drawF d)))) hw [0] (by decide) rfl km_X4_draw ki_X4_draw q467 (run_recv (ci := 4) (T := TX4) (N := 15) hw 0 rfl rfl) rfl rfl hl.1 rfl dX4_buildByLot_17) hw [0] (by decide) rfl (fun _ => rfl) (fun r_9 u_7 H locs hp_8 hw => ?_)
  have hw : WD g A s H locs [bO t 4 (tF (lad 0) ad ((drawF (drawF (drawF d))) 0) ((drawF (drawF (drawF d))) 9) ((drawF (drawF (drawF d))) 5) ((drawF (drawF (drawF d))) 6) ((drawF (drawF (drawF d))) 7) ((drawF (drawF (drawF d))) 1) ((drawF (drawF (drawF d))) 8)), bI g (ad 1) 10 (col d 0), bI g (ad 2) 10 (col d 1), bI g (ad 3) 10 (col d 2), bI g (ad 4) 10 (col d 3), bI g (ad 5) 10 (col d 4), bI g (ad 6) 3 (rulF d), bI g (ad 7) 3 cn] := hw
  subst hp_8
  refine lv_bipush (v := 100) hx hb dX4_buildByLot_20 (by decide) ?_
  refine lv_irem hx hb dX4_buildByLot_22 (by decide) ?_
  refine lv_istore_n (lv' := [(3, .int ((dwF (drawF (drawF (drawF d)) 8)) - (dwF (drawF (drawF (drawF d)) 8)) / 100 * 100)), (2, .int ((dwF (drawF (drawF d) 8)) - (dwF (drawF (drawF d) 8)) / 100 * 100)), (1, .int ((dwF (drawF d 8)) - (dwF (drawF d 8)) / 6 * 6)), (0, .ref t)]) hx hb dX4_buildByLot_23 rfl hl (by decide) rfl (fun ls hl => ?_)
  refine lv_aload_n hx hb dX4_buildByLot_24 rfl (lv_at hl 3 rfl) ?_
  refine s_calli (runV cf (x_draw (cn := cn) (t := t) (lad := lad) (ad := ad) (d := (drawF (drawF (drawF d))))) hw [0] (by decide) rfl km_X4_draw ki_X4_draw q467 (run_recv (ci := 4) (T := TX4) (N := 15) hw 0 rfl rfl) rfl rfl hl.1 rfl dX4_buildByLot_25) hw [0] (by decide) rfl (fun _ => rfl) (fun r_12 u_10 H locs hp_11 hw => ?_)
  have hw : WD g A s H locs [bO t 4 (tF (lad 0) ad ((drawF (drawF (drawF (drawF d)))) 0) ((drawF (drawF (drawF (drawF d)))) 9) ((drawF (drawF (drawF (drawF d)))) 5) ((drawF (drawF (drawF (drawF d)))) 6) ((drawF (drawF (drawF (drawF d)))) 7) ((drawF (drawF (drawF (drawF d)))) 1) ((drawF (drawF (drawF (drawF d)))) 8)), bI g (ad 1) 10 (col d 0), bI g (ad 2) 10 (col d 1), bI g (ad 3) 10 (col d 2), bI g (ad 4) 10 (col d 3), bI g (ad 5) 10 (col d 4), bI g (ad 6) 3 (rulF d), bI g (ad 7) 3 cn] := hw
  subst hp_11
  refine lv_bipush (v := 100) hx hb dX4_buildByLot_28 (by decide) ?_
  refine lv_irem hx hb dX4_buildByLot_30 (by decide) ?_
  refine lv_istore (lv' := [(4, .int ((dwF (drawF (drawF (drawF (drawF d))) 8)) - (dwF (drawF (drawF (drawF (drawF d))) 8)) / 100 * 100)), (3, .int ((dwF (drawF (drawF (drawF d)) 8)) - (dwF (drawF (drawF (drawF d)) 8)) / 100 * 100)), (2, .int ((dwF (drawF (drawF d) 8)) - (dwF (drawF (drawF d) 8)) / 100 * 100)), (1, .int ((dwF (drawF d 8)) - (dwF (drawF d 8)) / 6 * 6)), (0, .ref t)]) hx hb dX4_buildByLot_31 hl (by decide) rfl (fun ls hl => ?_)
  have hn4 : (drawF (drawF (drawF (drawF d)))) 0 = nI n := by rw [drawF_lo (by omega), drawF_lo (by omega), drawF_lo (by omega), drawF_lo (by omega)]; exact hn
  have hw : WD g A s H locs [bO t 4 (tF (lad 0) ad ((drawF (drawF (drawF (drawF d)))) 0) ((drawF (drawF (drawF (drawF d)))) 9) ((drawF (drawF (drawF (drawF d)))) 5) ((drawF (drawF (drawF (drawF d)))) 6) ((drawF (drawF (drawF (drawF d)))) 7) ((drawF (drawF (drawF (drawF d)))) 1) ((drawF (drawF (drawF (drawF d)))) 8)), bI g (ad 1) 10 (col (drawF (drawF (drawF (drawF d)))) 0), bI g (ad 2) 10 (col (drawF (drawF (drawF (drawF d)))) 1), bI g (ad 3) 10 (col (drawF (drawF (drawF (drawF d)))) 2), bI g (ad 4) 10 (col (drawF (drawF (drawF (drawF d)))) 3), bI g (ad 5) 10 (col (drawF (drawF (drawF (drawF d)))) 4), bI g (ad 6) 3 (rulF (drawF (drawF (drawF (drawF d))))), bI g (ad 7) 3 cn] := tw_wd (rest := []) (e := (drawF (drawF (drawF (drawF d))))) (tw_d4 d) hw
  refine lv_aload_n hx hb dX4_buildByLot_33 rfl (lv_at hl 4 rfl) ?_
  refine lv_iload_n hx hb dX4_buildByLot_34 rfl (lv_at hl 3 rfl) ?_
  refine lv_iload_n hx hb dX4_buildByLot_35 rfl (lv_at hl 2 rfl) ?_
  refine lv_iload_n hx hb dX4_buildByLot_36 rfl (lv_at hl 1 rfl) ?_
  refine lv_iload hx hb dX4_buildByLot_37 (lv_at hl 0 rfl) ?_
  refine s_calli (runV cf (x_build (t := t) (lad := lad) (ad := ad) (d := (drawF (drawF (drawF (drawF d))))) (cn := cn) (n := n) hn4 hn10 ((dwF (drawF d 8)) - (dwF (drawF d 8)) / 6 * 6) ((dwF (drawF (drawF d) 8)) - (dwF (drawF (drawF d) 8)) / 100 * 100) ((dwF (drawF (drawF (drawF d)) 8)) - (dwF (drawF (drawF (drawF d)) 8)) / 100 * 100) ((dwF (drawF (drawF (drawF (drawF d))) 8)) - (dwF (drawF (drawF (drawF (drawF d))) 8)) / 100 * 100)) hw [0, 1, 2, 3, 4, 5, 6, 7] (by decide) rfl km_X4_build ki_X4_build q472 (run_recv (ci := 4) (T := TX4) (N := 15) hw 0 rfl rfl) rfl rfl hl.1 rfl dX4_buildByLot_39) hw [0, 1, 2, 3, 4, 5, 6, 7] (by decide) rfl (fun _ => rfl) (fun r_15 u_13 H locs hp_14 hw => ?_)
  have hw : WD g A s H locs [bO t 4 (tF (lad 0) ad ((if (drawF (drawF (drawF (drawF d)))) 0 = 10 then (drawF (drawF (drawF (drawF d)))) else buildF (drawF (drawF (drawF (drawF d)))) ((dwF (drawF d 8)) - (dwF (drawF d 8)) / 6 * 6) ((dwF (drawF (drawF d) 8)) - (dwF (drawF (drawF d) 8)) / 100 * 100) ((dwF (drawF (drawF (drawF d)) 8)) - (dwF (drawF (drawF (drawF d)) 8)) / 100 * 100) ((dwF (drawF (drawF (drawF (drawF d))) 8)) - (dwF (drawF (drawF (drawF (drawF d))) 8)) / 100 * 100)) 0) ((if (drawF (drawF (drawF (drawF d)))) 0 = 10 then (drawF (drawF (drawF (drawF d)))) else buildF (drawF (drawF (drawF (drawF d)))) ((dwF (drawF d 8)) - (dwF (drawF d 8)) / 6 * 6) ((dwF (drawF (drawF d) 8)) - (dwF (drawF (drawF d) 8)) / 100 * 100) ((dwF (drawF (drawF (drawF d)) 8)) - (dwF (drawF (drawF (drawF d)) 8)) / 100 * 100) ((dwF (drawF (drawF (drawF (drawF d))) 8)) - (dwF (drawF (drawF (drawF (drawF d))) 8)) / 100 * 100)) 9) ((if (drawF (drawF (drawF (drawF d)))) 0 = 10 then (drawF (drawF (drawF (drawF d)))) else buildF (drawF (drawF (drawF (drawF d)))) ((dwF (drawF d 8)) - (dwF (drawF d 8)) / 6 * 6) ((dwF (drawF (drawF d) 8)) - (dwF (drawF (drawF d) 8)) / 100 * 100) ((dwF (drawF (drawF (drawF d)) 8)) - (dwF (drawF (drawF (drawF d)) 8)) / 100 * 100) ((dwF (drawF (drawF (drawF (drawF d))) 8)) - (dwF (drawF (drawF (drawF (drawF d))) 8)) / 100 * 100)) 5) ((if (drawF (drawF (drawF (drawF d)))) 0 = 10 then (drawF (drawF (drawF (drawF d)))) else buildF (drawF (drawF (drawF (drawF d)))) ((dwF (drawF d 8)) - (dwF (drawF d 8)) / 6 * 6) ((dwF (drawF (drawF d) 8)) - (dwF (drawF (drawF d) 8)) / 100 * 100) ((dwF (drawF (drawF (drawF d)) 8)) - (dwF (drawF (drawF (drawF d)) 8)) / 100 * 100) ((dwF (drawF (drawF (drawF (drawF d))) 8)) - (dwF (drawF (drawF (drawF (drawF d))) 8)) / 100 * 100)) 6) ((if (drawF (drawF (drawF (drawF d)))) 0 = 10 then (drawF (drawF (drawF (drawF d)))) else buildF (drawF (drawF (drawF (drawF d)))) ((dwF (drawF d 8)) - (dwF (drawF d 8)) / 6 * 6) ((dwF (drawF (drawF d) 8)) - (dwF (drawF (drawF d) 8)) / 100 * 100) ((dwF (drawF (drawF (drawF d)) 8)) - (dwF (drawF (drawF (drawF d)) 8)) / 100 * 100) ((dwF (drawF (drawF (drawF (drawF d))) 8)) - (dwF (drawF (drawF (drawF (drawF d))) 8)) / 100 * 100)) 7) ((if (drawF (drawF (drawF (drawF d)))) 0 = 10 then (drawF (drawF (drawF (drawF d)))) else buildF (drawF (drawF (drawF (drawF d)))) ((dwF (drawF d 8)) - (dwF (drawF d 8)) / 6 * 6) ((dwF (drawF (drawF d) 8)) - (dwF (drawF (drawF d) 8)) / 100 * 100) ((dwF (drawF (drawF (drawF d)) 8)) - (dwF (drawF (drawF (drawF d)) 8)) / 100 * 100) ((dwF (drawF (drawF (drawF (drawF d))) 8)) - (dwF (drawF (drawF (drawF (drawF d))) 8)) / 100 * 100)) 1) ((if (drawF (drawF (drawF (drawF d)))) 0 = 10 then (drawF (drawF (drawF (drawF d)))) else buildF (drawF (drawF (drawF (drawF d)))) ((dwF (drawF d 8)) - (dwF (drawF d 8)) / 6 * 6) ((dwF (drawF (drawF d) 8)) - (dwF (drawF (drawF d) 8)) / 100 * 100) ((dwF (drawF (drawF (drawF d)) 8)) - (dwF (drawF (drawF (drawF d)) 8)) / 100 * 100) ((dwF (drawF (drawF (drawF (drawF d))) 8)) - (dwF (drawF (drawF (drawF (drawF d))) 8)) / 100 * 100)) 8)), bI g (ad 1) 10 (col (if (drawF (drawF (drawF (drawF d)))) 0 = 10 then (drawF (drawF (drawF (drawF d)))) else buildF (drawF (drawF (drawF (drawF d)))) ((dwF (drawF d 8)) - (dwF (drawF d 8)) / 6 * 6) ((dwF (drawF (drawF d) 8)) - (dwF (drawF (drawF d) 8)) / 100 * 100) ((dwF (drawF (drawF (drawF d)) 8)) - (dwF (drawF (drawF (drawF d)) 8)) / 100 * 100) ((dwF (drawF (drawF (drawF (drawF d))) 8)) - (dwF (drawF (drawF (drawF (drawF d))) 8)) / 100 * 100)) 0), bI g (ad 2) 10 (col (if (drawF (drawF (drawF (drawF d)))) 0 = 10 then (drawF (drawF (drawF (drawF d)))) else buildF (drawF (drawF (drawF (drawF d)))) ((dwF (drawF d 8)) - (dwF (drawF d 8)) / 6 * 6) ((dwF (drawF (drawF d) 8)) - (dwF (drawF (drawF d) 8)) / 100 * 100) ((dwF (drawF (drawF (drawF d)) 8)) - (dwF (drawF (drawF (drawF d)) 8)) / 100 * 100) ((dwF (drawF (drawF (drawF (drawF d))) 8)) - (dwF (drawF (drawF (drawF (drawF d))) 8)) / 100 * 100)) 1), bI g (ad 3) 10 (col (if (drawF (drawF (drawF (drawF d)))) 0 = 10 then (drawF (drawF (drawF (drawF d)))) else buildF (drawF (drawF (drawF (drawF d)))) ((dwF (drawF d 8)) - (dwF (drawF d 8)) / 6 * 6) ((dwF (drawF (drawF d) 8)) - (dwF (drawF (drawF d) 8)) / 100 * 100) ((dwF (drawF (drawF (drawF d)) 8)) - (dwF (drawF (drawF (drawF d)) 8)) / 100 * 100) ((dwF (drawF (drawF (drawF (drawF d))) 8)) - (dwF (drawF (drawF (drawF (drawF d))) 8)) / 100 * 100)) 2), bI g (ad 4) 10 (col (if (drawF (drawF (drawF (drawF d)))) 0 = 10 then (drawF (drawF (drawF (drawF d)))) else buildF (drawF (drawF (drawF (drawF d)))) ((dwF (drawF d 8)) - (dwF (drawF d 8)) / 6 * 6) ((dwF (drawF (drawF d) 8)) - (dwF (drawF (drawF d) 8)) / 100 * 100) ((dwF (drawF (drawF (drawF d)) 8)) - (dwF (drawF (drawF (drawF d)) 8)) / 100 * 100) ((dwF (drawF (drawF (drawF (drawF d))) 8)) - (dwF (drawF (drawF (drawF (drawF d))) 8)) / 100 * 100)) 3), bI g (ad 5) 10 (col (if (drawF (drawF (drawF (drawF d)))) 0 = 10 then (drawF (drawF (drawF (drawF d)))) else buildF (drawF (drawF (drawF (drawF d)))) ((dwF (drawF d 8)) - (dwF (drawF d 8)) / 6 * 6) ((dwF (drawF (drawF d) 8)) - (dwF (drawF (drawF d) 8)) / 100 * 100) ((dwF (drawF (drawF (drawF d)) 8)) - (dwF (drawF (drawF (drawF d)) 8)) / 100 * 100) ((dwF (drawF (drawF (drawF (drawF d))) 8)) - (dwF (drawF (drawF (drawF (drawF d))) 8)) / 100 * 100)) 4), bI g (ad 6) 3 (rulF (if (drawF (drawF (drawF (drawF d)))) 0 = 10 then (drawF (drawF (drawF (drawF d)))) else buildF (drawF (drawF (drawF (drawF d)))) ((dwF (drawF d 8)) - (dwF (drawF d 8)) / 6 * 6) ((dwF (drawF (drawF d) 8)) - (dwF (drawF (drawF d) 8)) / 100 * 100) ((dwF (drawF (drawF (drawF d)) 8)) - (dwF (drawF (drawF (drawF d)) 8)) / 100 * 100) ((dwF (drawF (drawF (drawF (drawF d))) 8)) - (dwF (drawF (drawF (drawF (drawF d))) 8)) / 100 * 100))), bI g (ad 7) 3 cn] := hw
  subst hp_14
  refine lv_pop hx hb dX4_buildByLot_42 rfl ?_
  exact s_vret cf hr hlk () (by have q : lotF d = (if (drawF (drawF (drawF (drawF d)))) 0 = 10 then (drawF (drawF (drawF (drawF d)))) else buildF (drawF (drawF (drawF (drawF d)))) ((dwF (drawF d 8)) - (dwF (drawF d 8)) / 6 * 6) ((dwF (drawF (drawF d) 8)) - (dwF (drawF (drawF d) 8)) / 100 * 100) ((dwF (drawF (drawF (drawF d)) 8)) - (dwF (drawF (drawF (drawF d)) 8)) / 100 * 100) ((dwF (drawF (drawF (drawF (drawF d))) 8)) - (dwF (drawF (drawF (drawF (drawF d))) 8)) / 100 * 100)) := (if_neg (by rw [hn4]; intro z; have := (nI_eq (b := 10) (by omega) (by omega)).mp z; omega)).symm; rw [q]; exact hw) trivial (Nat.le_of_ble_eq_true rfl) (Nat.le_of_ble_eq_true rfl) dX4_buildByLot_43 hQ
set_option maxRecDepth 100000 in
set_option maxHeartbeats 4000000 in
theorem x_coldOnes {l : Launch} {g : GG} {t : Nat} {lad ad : Nat → Nat} {d cn : DD} {n : Nat} (hn : d 0 = nI n) (hn10 : n ≤ 10) : Ct l g yX4_coldOnes cX4_coldOnes 3 (Option.some Jvm.ClassFile.FieldType.int) 0 0 0 [.ref t] [bO t 4 (tF (lad 0) ad (d 0) (d 9) (d 5) (d 6) (d 7) (d 1) (d 8)), bI g (ad 4) 10 (col d 3)] (QI g (fun r (_ : Unit) => r = setF (fun h => d (10 + 5 * h + 3) = 0) n) (fun _ => [bO t 4 (tF (lad 0) ad (d 0) (d 9) (d 5) (d 6) (d 7) (d 1) (d 8)), bI g (ad 4) 10 (col d 3)])) := by
  refine Ct.of (by decide) rfl ?_
  intro p e s m args below meth c A H locs ls Qf cf hr hlk hnm hQ hw hl
  have hx := cf.1
  have hb := cf.2.1
  have hml := cf.2.2.1
  have hown := cf.2.2.2.1
  have hts := cf.2.2.2.2
  have hw : WD g A s H locs [bO t 4 (tF (lad 0) ad (d 0) (d 9) (d 5) (d 6) (d 7) (d 1) (d 8)), bI g (ad 4) 10 (col d 3)] := hw
  have hl : lv_has ls 3 [(0, .ref t)] := hl
  refine lv_iconst (v := 0) hx hb dX4_coldOnes_0 (by decide) ?_
  refine lv_istore_n (lv' := [(1, .int 0), (0, .ref t)]) hx hb dX4_coldOnes_1 rfl hl (by decide) rfl (fun ls hl => ?_)
  refine lv_iconst (v := 0) hx hb dX4_coldOnes_2 (by decide) ?_
  refine lv_istore_n (lv' := [(2, .int 0), (1, .int 0), (0, .ref t)]) hx hb dX4_coldOnes_3 rfl hl (by decide) rfl (fun ls hl => ?_)
  have L4 : ∀ (fu : Nat) (i : Nat), (i ≤ n) → (n < i + fu) → ∀ (H : Heap) (locs : List Loc) (ls : Array Slot), WD g A s H locs [bO t 4 (tF (lad 0) ad (d 0) (d 9) (d 5) (d 6) (d 7) (d 1) (d 8)), bI g (ad 4) 10 (col d 3)] → lv_has ls 3 [(0, .ref t), (1, .int (setF (fun h => d (10 + 5 * h + 3) = 0) i)), (2, .int (nI i))] → W p l e (rmx 0 0 0) s m args below meth c H locs 0 0 Qf (F0 m 4 ls []) := by
    intro fu
    induction fu with
    | zero => intro i hi hfu; exfalso; omega
    | succ fu ih4 =>
      intro i hi hfu H locs ls hw hl
      refine lv_iload_n hx hb dX4_coldOnes_4 rfl (lv_at hl 2 rfl) ?_
      refine lv_aload_n hx hb dX4_coldOnes_5 rfl (lv_at hl 0 rfl) ?_
      refine s_get (v := .int (d 0)) fb4 cf hw 0 rfl 8 rfl q173 rfl dX4_coldOnes_6 ?_
      refine lv_icmp_ge (tgt := 33) hx hb dX4_coldOnes_9 (by decide) (fun c9 => ?_) (fun c9 => ?_)
      · have hi2 : n = i := by rw [hn] at c9; have := nI_le_of (by omega) c9 (by omega); omega
        refine lv_iload_n hx hb dX4_coldOnes_33 rfl (lv_at hl 1 rfl) ?_
        exact s_iret cf hr hlk () hw (by rw [hi2]) (Nat.le_of_ble_eq_true rfl) (Nat.le_of_ble_eq_true rfl) dX4_coldOnes_34 hQ
      · have hlt : i < n := by rw [hn] at c9; exact nI_lt_of (by omega) c9 (by omega)
        refine lv_aload_n hx hb dX4_coldOnes_12 rfl (lv_at hl 0 rfl) ?_
        refine s_get (v := .ref (ad 4)) fb4 cf hw 0 rfl 4 rfl q163 rfl dX4_coldOnes_13 ?_
        refine lv_iload_n hx hb dX4_coldOnes_16 rfl (lv_at hl 2 rfl) ?_
        refine s_iald (j := i) cf hw 1 rfl (rfl) (by omega) rfl dX4_coldOnes_17 ?_
        refine lv_topr (y := d (10 + 5 * i + 3)) (rfl) ?_
        refine lv_if_ne (tgt := 27) hx hb dX4_coldOnes_18 (by decide) (fun c18 => ?_) (fun c18 => ?_)
        · have e1 : setF (fun h => d (10 + 5 * h + 3) = 0) (i + 1) = setF (fun h => d (10 + 5 * h + 3) = 0) i := setF_f (P := fun h => d (10 + 5 * h + 3) = 0) (c18)
          have hl : lv_has ls 3 [(0, .ref t), (1, .int (setF (fun h => d (10 + 5 * h + 3) = 0) (i + 1))), (2, .int (nI i))] := by rw [e1]; exact hl
          refine lv_iinc (v := nI (i + 1)) (lv' := [(2, .int (nI (i + 1))), (0, .ref t), (1, .int (setF (fun h => d (10 + 5 * h + 3) = 0) (i + 1)))]) hx hb dX4_coldOnes_27 hl (k := 2) rfl (nI_1 i) (by decide) rfl (fun ls hl => ?_)
          refine lv_goto (tgt := 4) hx hb dX4_coldOnes_30 (by decide) ?_
          exact ih4 (i + 1) (by omega) (by omega) _ _ _ hw (lv_sub hl [1, 2, 0] rfl)
        · refine lv_iload_n hx hb dX4_coldOnes_21 rfl (lv_at hl 1 rfl) ?_
          refine lv_iconst (v := 1) hx hb dX4_coldOnes_22 (by decide) ?_
          refine lv_iload_n hx hb dX4_coldOnes_23 rfl (lv_at hl 2 rfl) ?_
          refine lv_ishl hx hb dX4_coldOnes_24 ?_
          refine lv_ior hx hb dX4_coldOnes_25 ?_
          refine lv_istore_n (lv' := [(1, .int ((setF (fun h => d (10 + 5 * h + 3) = 0) i) ||| ((1 : Int32) <<< ((nI i) &&& 31)))), (0, .ref t), (2, .int (nI i))]) hx hb dX4_coldOnes_26 rfl hl (by decide) rfl (fun ls hl => ?_)
          have e1 : setF (fun h => d (10 + 5 * h + 3) = 0) (i + 1) = (setF (fun h => d (10 + 5 * h + 3) = 0) i) ||| ((1 : Int32) <<< ((nI i) &&& 31)) := setF_t (P := fun h => d (10 + 5 * h + 3) = 0) (c18)
          have hl : lv_has ls 3 [(1, .int (setF (fun h => d (10 + 5 * h + 3) = 0) (i + 1))), (0, .ref t), (2, .int (nI i))] := by rw [e1]; exact hl
          refine lv_iinc (v := nI (i + 1)) (lv' := [(2, .int (nI (i + 1))), (1, .int (setF (fun h => d (10 + 5 * h + 3) = 0) (i + 1))), (0, .ref t)]) hx hb dX4_coldOnes_27 hl (k := 2) rfl (nI_1 i) (by decide) rfl (fun ls hl => ?_)
          refine lv_goto (tgt := 4) hx hb dX4_coldOnes_30 (by decide) ?_
          exact ih4 (i + 1) (by omega) (by omega) _ _ _ hw (lv_sub hl [2, 1, 0] rfl)
  exact L4 (n + 1) 0 (by omega) (by omega) _ _ _ hw (lv_sub hl [2, 1, 0] rfl)
set_option maxRecDepth 100000 in
set_option maxHeartbeats 4000000 in
theorem x_those {l : Launch} {g : GG} {t : Nat} {lad ad : Nat → Nat} {d cn : DD} {n : Nat} (hn : d 0 = nI n) (hn10 : n ≤ 10) (k_ : Int32) : Ct l g yX4_those cX4_those 4 (Option.some Jvm.ClassFile.FieldType.int) 0 0 0 [.ref t, .int k_] [bO t 4 (tF (lad 0) ad (d 0) (d 9) (d 5) (d 6) (d 7) (d 1) (d 8)), bI g (ad 1) 10 (col d 0)] (QI g (fun r (_ : Unit) => r = setF (fun h => d (10 + 5 * h + 0) = k_) n) (fun _ => [bO t 4 (tF (lad 0) ad (d 0) (d 9) (d 5) (d 6) (d 7) (d 1) (d 8)), bI g (ad 1) 10 (col d 0)])) := by
  refine Ct.of (by decide) rfl ?_
  intro p e s m args below meth c A H locs ls Qf cf hr hlk hnm hQ hw hl
  have hx := cf.1
  have hb := cf.2.1
  have hml := cf.2.2.1
  have hown := cf.2.2.2.1
  have hts := cf.2.2.2.2
  have hw : WD g A s H locs [bO t 4 (tF (lad 0) ad (d 0) (d 9) (d 5) (d 6) (d 7) (d 1) (d 8)), bI g (ad 1) 10 (col d 0)] := hw
  have hl : lv_has ls 4 [(0, .ref t), (1, .int k_)] := hl
  refine lv_iconst (v := 0) hx hb dX4_those_0 (by decide) ?_
  refine lv_istore_n (lv' := [(2, .int 0), (0, .ref t), (1, .int k_)]) hx hb dX4_those_1 rfl hl (by decide) rfl (fun ls hl => ?_)
  refine lv_iconst (v := 0) hx hb dX4_those_2 (by decide) ?_
  refine lv_istore_n (lv' := [(3, .int 0), (2, .int 0), (0, .ref t), (1, .int k_)]) hx hb dX4_those_3 rfl hl (by decide) rfl (fun ls hl => ?_)
  have L4 : ∀ (fu : Nat) (i : Nat), (i ≤ n) → (n < i + fu) → ∀ (H : Heap) (locs : List Loc) (ls : Array Slot), WD g A s H locs [bO t 4 (tF (lad 0) ad (d 0) (d 9) (d 5) (d 6) (d 7) (d 1) (d 8)), bI g (ad 1) 10 (col d 0)] → lv_has ls 4 [(0, .ref t), (1, .int k_), (2, .int (setF (fun h => d (10 + 5 * h + 0) = k_) i)), (3, .int (nI i))] → W p l e (rmx 0 0 0) s m args below meth c H locs 0 0 Qf (F0 m 4 ls []) := by
    intro fu
    induction fu with
    | zero => intro i hi hfu; exfalso; omega
    | succ fu ih4 =>
      intro i hi hfu H locs ls hw hl
      refine lv_iload_n hx hb dX4_those_4 rfl (lv_at hl 3 rfl) ?_
      refine lv_aload_n hx hb dX4_those_5 rfl (lv_at hl 0 rfl) ?_
      refine s_get (v := .int (d 0)) fb4 cf hw 0 rfl 8 rfl q173 rfl dX4_those_6 ?_
      refine lv_icmp_ge (tgt := 34) hx hb dX4_those_9 (by decide) (fun c9 => ?_) (fun c9 => ?_)
      · have hi2 : n = i := by rw [hn] at c9; have := nI_le_of (by omega) c9 (by omega); omega
        refine lv_iload_n hx hb dX4_those_34 rfl (lv_at hl 2 rfl) ?_
        exact s_iret cf hr hlk () hw (by rw [hi2]) (Nat.le_of_ble_eq_true rfl) (Nat.le_of_ble_eq_true rfl) dX4_those_35 hQ
      · have hlt : i < n := by rw [hn] at c9; exact nI_lt_of (by omega) c9 (by omega)
        refine lv_aload_n hx hb dX4_those_12 rfl (lv_at hl 0 rfl) ?_
        refine s_get (v := .ref (ad 1)) fb4 cf hw 0 rfl 1 rfl q155 rfl dX4_those_13 ?_
        refine lv_iload_n hx hb dX4_those_16 rfl (lv_at hl 3 rfl) ?_
        refine s_iald (j := i) cf hw 1 rfl (rfl) (by omega) rfl dX4_those_17 ?_
        refine lv_topr (y := d (10 + 5 * i + 0)) (rfl) ?_
        refine lv_iload_n hx hb dX4_those_18 rfl (lv_at hl 1 rfl) ?_
        refine lv_icmp_ne (tgt := 28) hx hb dX4_those_19 (by decide) (fun c19 => ?_) (fun c19 => ?_)
        · have e1 : setF (fun h => d (10 + 5 * h + 0) = k_) (i + 1) = setF (fun h => d (10 + 5 * h + 0) = k_) i := setF_f (P := fun h => d (10 + 5 * h + 0) = k_) (c19)
          have hl : lv_has ls 4 [(0, .ref t), (1, .int k_), (2, .int (setF (fun h => d (10 + 5 * h + 0) = k_) (i + 1))), (3, .int (nI i))] := by rw [e1]; exact hl
          refine lv_iinc (v := nI (i + 1)) (lv' := [(3, .int (nI (i + 1))), (0, .ref t), (1, .int k_), (2, .int (setF (fun h => d (10 + 5 * h + 0) = k_) (i + 1)))]) hx hb dX4_those_28 hl (k := 3) rfl (nI_1 i) (by decide) rfl (fun ls hl => ?_)
          refine lv_goto (tgt := 4) hx hb dX4_those_31 (by decide) ?_
          exact ih4 (i + 1) (by omega) (by omega) _ _ _ hw (lv_sub hl [1, 2, 3, 0] rfl)
        · refine lv_iload_n hx hb dX4_those_22 rfl (lv_at hl 2 rfl) ?_
          refine lv_iconst (v := 1) hx hb dX4_those_23 (by decide) ?_
          refine lv_iload_n hx hb dX4_those_24 rfl (lv_at hl 3 rfl) ?_
          refine lv_ishl hx hb dX4_those_25 ?_
          refine lv_ior hx hb dX4_those_26 ?_
          refine lv_istore_n (lv' := [(2, .int ((setF (fun h => d (10 + 5 * h + 0) = k_) i) ||| ((1 : Int32) <<< ((nI i) &&& 31)))), (0, .ref t), (1, .int k_), (3, .int (nI i))]) hx hb dX4_those_27 rfl hl (by decide) rfl (fun ls hl => ?_)
          have e1 : setF (fun h => d (10 + 5 * h + 0) = k_) (i + 1) = (setF (fun h => d (10 + 5 * h + 0) = k_) i) ||| ((1 : Int32) <<< ((nI i) &&& 31)) := setF_t (P := fun h => d (10 + 5 * h + 0) = k_) (c19)
          have hl : lv_has ls 4 [(2, .int (setF (fun h => d (10 + 5 * h + 0) = k_) (i + 1))), (0, .ref t), (1, .int k_), (3, .int (nI i))] := by rw [e1]; exact hl
          refine lv_iinc (v := nI (i + 1)) (lv' := [(3, .int (nI (i + 1))), (2, .int (setF (fun h => d (10 + 5 * h + 0) = k_) (i + 1))), (0, .ref t), (1, .int k_)]) hx hb dX4_those_28 hl (k := 3) rfl (nI_1 i) (by decide) rfl (fun ls hl => ?_)
          refine lv_goto (tgt := 4) hx hb dX4_those_31 (by decide) ?_
          exact ih4 (i + 1) (by omega) (by omega) _ _ _ hw (lv_sub hl [2, 3, 1, 0] rfl)
  exact L4 (n + 1) 0 (by omega) (by omega) _ _ _ hw (lv_sub hl [2, 3, 1, 0] rfl)
set_option maxRecDepth 100000 in
set_option maxHeartbeats 4000000 in
theorem x_misfits {l : Launch} {g : GG} {t : Nat} {lad ad : Nat → Nat} {d cn : DD} {n : Nat} (hn : d 0 = nI n) (hn10 : n ≤ 10) : Ct l g yX4_misfits cX4_misfits 3 (Option.some Jvm.ClassFile.FieldType.int) 0 0 0 [.ref t] [bO t 4 (tF (lad 0) ad (d 0) (d 9) (d 5) (d 6) (d 7) (d 1) (d 8)), bI g (ad 3) 10 (col d 2), bI g (ad 2) 10 (col d 1), bI g (ad 1) 10 (col d 0)] (QI g (fun r (_ : Unit) => r = setF (fun h => ¬ d (10 + 5 * h + 2) = d (10 + 5 * h + 1) ∧ ¬ d (10 + 5 * h + 0) = 5) n) (fun _ => [bO t 4 (tF (lad 0) ad (d 0) (d 9) (d 5) (d 6) (d 7) (d 1) (d 8)), bI g (ad 3) 10 (col d 2), bI g (ad 2) 10 (col d 1), bI g (ad 1) 10 (col d 0)])) := by
  refine Ct.of (by decide) rfl ?_
  intro p e s m args below meth c A H locs ls Qf cf hr hlk hnm hQ hw hl
  have hx := cf.1
  have hb := cf.2.1
  have hml := cf.2.2.1
  have hown := cf.2.2.2.1
  have hts := cf.2.2.2.2
  have hw : WD g A s H locs [bO t 4 (tF (lad 0) ad (d 0) (d 9) (d 5) (d 6) (d 7) (d 1) (d 8)), bI g (ad 3) 10 (col d 2), bI g (ad 2) 10 (col d 1), bI g (ad 1) 10 (col d 0)] := hw
  have hl : lv_has ls 3 [(0, .ref t)] := hl
  refine lv_iconst (v := 0) hx hb dX4_misfits_0 (by decide) ?_
  refine lv_istore_n (lv' := [(1, .int 0), (0, .ref t)]) hx hb dX4_misfits_1 rfl hl (by decide) rfl (fun ls hl => ?_)
  refine lv_iconst (v := 0) hx hb dX4_misfits_2 (by decide) ?_
  refine lv_istore_n (lv' := [(2, .int 0), (1, .int 0), (0, .ref t)]) hx hb dX4_misfits_3 rfl hl (by decide) rfl (fun ls hl => ?_)
  have L4 : ∀ (fu : Nat) (i : Nat), (i ≤ n) → (n < i + fu) → ∀ (H : Heap) (locs : List Loc) (ls : Array Slot), WD g A s H locs [bO t 4 (tF (lad 0) ad (d 0) (d 9) (d 5) (d 6) (d 7) (d 1) (d 8)), bI g (ad 3) 10 (col d 2), bI g (ad 2) 10 (col d 1), bI g (ad 1) 10 (col d 0)] → lv_has ls 3 [(0, .ref t), (1, .int (setF (fun h => ¬ d (10 + 5 * h + 2) = d (10 + 5 * h + 1) ∧ ¬ d (10 + 5 * h + 0) = 5) i)), (2, .int (nI i))] → W p l e (rmx 0 0 0) s m args below meth c H locs 0 0 Qf (F0 m 4 ls []) := by
    intro fu
    induction fu with
    | zero => intro i hi hfu; exfalso; omega
    | succ fu ih4 =>
      intro i hi hfu H locs ls hw hl
      refine lv_iload_n hx hb dX4_misfits_4 rfl (lv_at hl 2 rfl) ?_
      refine lv_aload_n hx hb dX4_misfits_5 rfl (lv_at hl 0 rfl) ?_
      refine s_get (v := .int (d 0)) fb4 cf hw 0 rfl 8 rfl q173 rfl dX4_misfits_6 ?_
      refine lv_icmp_ge (tgt := 49) hx hb dX4_misfits_9 (by decide) (fun c9 => ?_) (fun c9 => ?_)
      · have hi2 : n = i := by rw [hn] at c9; have := nI_le_of (by omega) c9 (by omega); omega
        refine lv_iload_n hx hb dX4_misfits_49 rfl (lv_at hl 1 rfl) ?_
        exact s_iret cf hr hlk () hw (by rw [hi2]) (Nat.le_of_ble_eq_true rfl) (Nat.le_of_ble_eq_true rfl) dX4_misfits_50 hQ
      · have hlt : i < n := by rw [hn] at c9; exact nI_lt_of (by omega) c9 (by omega)
        refine lv_aload_n hx hb dX4_misfits_12 rfl (lv_at hl 0 rfl) ?_
        refine s_get (v := .ref (ad 3)) fb4 cf hw 0 rfl 3 rfl q161 rfl dX4_misfits_13 ?_
        refine lv_iload_n hx hb dX4_misfits_16 rfl (lv_at hl 2 rfl) ?_
        refine s_iald (j := i) cf hw 1 rfl (rfl) (by omega) rfl dX4_misfits_17 ?_
        refine lv_topr (y := d (10 + 5 * i + 2)) (rfl) ?_
        refine lv_aload_n hx hb dX4_misfits_18 rfl (lv_at hl 0 rfl) ?_
        refine s_get (v := .ref (ad 2)) fb4 cf hw 0 rfl 2 rfl q158 rfl dX4_misfits_19 ?_
        refine lv_iload_n hx hb dX4_misfits_22 rfl (lv_at hl 2 rfl) ?_
        refine s_iald (j := i) cf hw 2 rfl (rfl) (by omega) rfl dX4_misfits_23 ?_
        refine lv_topr (y := d (10 + 5 * i + 1)) (rfl) ?_
        refine lv_icmp_eq (tgt := 43) hx hb dX4_misfits_24 (by decide) (fun c24 => ?_) (fun c24 => ?_)
        · have e1 : setF (fun h => ¬ d (10 + 5 * h + 2) = d (10 + 5 * h + 1) ∧ ¬ d (10 + 5 * h + 0) = 5) (i + 1) = setF (fun h => ¬ d (10 + 5 * h + 2) = d (10 + 5 * h + 1) ∧ ¬ d (10 + 5 * h + 0) = 5) i := setF_f (P := fun h => ¬ d (10 + 5 * h + 2) = d (10 + 5 * h + 1) ∧ ¬ d (10 + 5 * h + 0) = 5) (fun z => z.1 c24)
          have hl : lv_has ls 3 [(0, .ref t), (1, .int (setF (fun h => ¬ d (10 + 5 * h + 2) = d (10 + 5 * h + 1) ∧ ¬ d (10 + 5 * h + 0) = 5) (i + 1))), (2, .int (nI i))] := by rw [e1]; exact hl
          refine lv_iinc (v := nI (i + 1)) (lv' := [(2, .int (nI (i + 1))), (0, .ref t), (1, .int (setF (fun h => ¬ d (10 + 5 * h + 2) = d (10 + 5 * h + 1) ∧ ¬ d (10 + 5 * h + 0) = 5) (i + 1)))]) hx hb dX4_misfits_43 hl (k := 2) rfl (nI_1 i) (by decide) rfl (fun ls hl => ?_)
          refine lv_goto (tgt := 4) hx hb dX4_misfits_46 (by decide) ?_
          exact ih4 (i + 1) (by omega) (by omega) _ _ _ hw (lv_sub hl [1, 2, 0] rfl)
        · refine lv_aload_n hx hb dX4_misfits_27 rfl (lv_at hl 0 rfl) ?_
          refine s_get (v := .ref (ad 1)) fb4 cf hw 0 rfl 1 rfl q155 rfl dX4_misfits_28 ?_
          refine lv_iload_n hx hb dX4_misfits_31 rfl (lv_at hl 2 rfl) ?_
          refine s_iald (j := i) cf hw 3 rfl (rfl) (by omega) rfl dX4_misfits_32 ?_
          refine lv_topr (y := d (10 + 5 * i + 0)) (rfl) ?_
          refine lv_iconst (v := 5) hx hb dX4_misfits_33 (by decide) ?_
          refine lv_icmp_eq (tgt := 43) hx hb dX4_misfits_34 (by decide) (fun c34 => ?_) (fun c34 => ?_)
          · have e1 : setF (fun h => ¬ d (10 + 5 * h + 2) = d (10 + 5 * h + 1) ∧ ¬ d (10 + 5 * h + 0) = 5) (i + 1) = setF (fun h => ¬ d (10 + 5 * h + 2) = d (10 + 5 * h + 1) ∧ ¬ d (10 + 5 * h + 0) = 5) i := setF_f (P := fun h => ¬ d (10 + 5 * h + 2) = d (10 + 5 * h + 1) ∧ ¬ d (10 + 5 * h + 0) = 5) (fun z => z.2 c34)
            have hl : lv_has ls 3 [(0, .ref t), (1, .int (setF (fun h => ¬ d (10 + 5 * h + 2) = d (10 + 5 * h + 1) ∧ ¬ d (10 + 5 * h + 0) = 5) (i + 1))), (2, .int (nI i))] := by rw [e1]; exact hl
            refine lv_iinc (v := nI (i + 1)) (lv' := [(2, .int (nI (i + 1))), (0, .ref t), (1, .int (setF (fun h => ¬ d (10 + 5 * h + 2) = d (10 + 5 * h + 1) ∧ ¬ d (10 + 5 * h + 0) = 5) (i + 1)))]) hx hb dX4_misfits_43 hl (k := 2) rfl (nI_1 i) (by decide) rfl (fun ls hl => ?_)
            refine lv_goto (tgt := 4) hx hb dX4_misfits_46 (by decide) ?_
            exact ih4 (i + 1) (by omega) (by omega) _ _ _ hw (lv_sub hl [1, 2, 0] rfl)
          · refine lv_iload_n hx hb dX4_misfits_37 rfl (lv_at hl 1 rfl) ?_
            refine lv_iconst (v := 1) hx hb dX4_misfits_38 (by decide) ?_
            refine lv_iload_n hx hb dX4_misfits_39 rfl (lv_at hl 2 rfl) ?_
            refine lv_ishl hx hb dX4_misfits_40 ?_
            refine lv_ior hx hb dX4_misfits_41 ?_
            refine lv_istore_n (lv' := [(1, .int ((setF (fun h => ¬ d (10 + 5 * h + 2) = d (10 + 5 * h + 1) ∧ ¬ d (10 + 5 * h + 0) = 5) i) ||| ((1 : Int32) <<< ((nI i) &&& 31)))), (0, .ref t), (2, .int (nI i))]) hx hb dX4_misfits_42 rfl hl (by decide) rfl (fun ls hl => ?_)
            have e1 : setF (fun h => ¬ d (10 + 5 * h + 2) = d (10 + 5 * h + 1) ∧ ¬ d (10 + 5 * h + 0) = 5) (i + 1) = (setF (fun h => ¬ d (10 + 5 * h + 2) = d (10 + 5 * h + 1) ∧ ¬ d (10 + 5 * h + 0) = 5) i) ||| ((1 : Int32) <<< ((nI i) &&& 31)) := setF_t (P := fun h => ¬ d (10 + 5 * h + 2) = d (10 + 5 * h + 1) ∧ ¬ d (10 + 5 * h + 0) = 5) (⟨c24, c34⟩)
            have hl : lv_has ls 3 [(1, .int (setF (fun h => ¬ d (10 + 5 * h + 2) = d (10 + 5 * h + 1) ∧ ¬ d (10 + 5 * h + 0) = 5) (i + 1))), (0, .ref t), (2, .int (nI i))] := by rw [e1]; exact hl
            refine lv_iinc (v := nI (i + 1)) (lv' := [(2, .int (nI (i + 1))), (1, .int (setF (fun h => ¬ d (10 + 5 * h + 2) = d (10 + 5 * h + 1) ∧ ¬ d (10 + 5 * h + 0) = 5) (i + 1))), (0, .ref t)]) hx hb dX4_misfits_43 hl (k := 2) rfl (nI_1 i) (by decide) rfl (fun ls hl => ?_)
            refine lv_goto (tgt := 4) hx hb dX4_misfits_46 (by decide) ?_
            exact ih4 (i + 1) (by omega) (by omega) _ _ _ hw (lv_sub hl [2, 1, 0] rfl)
  exact L4 (n + 1) 0 (by omega) (by omega) _ _ _ hw (lv_sub hl [2, 1, 0] rfl)
set_option maxRecDepth 100000 in
set_option maxHeartbeats 4000000 in
theorem x_total {l : Launch} {g : GG} {t : Nat} {lad ad : Nat → Nat} {d cn : DD} {n : Nat} (hn : d 0 = nI n) (hn10 : n ≤ 10) {x : Nat} {f : DD} : Ct l g yX4_total cX4_total 4 (Option.some Jvm.ClassFile.FieldType.int) 0 0 0 [.ref t, .ref x] [bO t 4 (tF (lad 0) ad (d 0) (d 9) (d 5) (d 6) (d 7) (d 1) (d 8)), bI g x 10 f] (QI g (fun r (_ : Unit) => r = itn (fun h x => x + f h) n 0) (fun _ => [bO t 4 (tF (lad 0) ad (d 0) (d 9) (d 5) (d 6) (d 7) (d 1) (d 8)), bI g x 10 f])) := by
  refine Ct.of (by decide) rfl ?_
  intro p e s m args below meth c A H locs ls Qf cf hr hlk hnm hQ hw hl
  have hx := cf.1
  have hb := cf.2.1
  have hml := cf.2.2.1
  have hown := cf.2.2.2.1
  have hts := cf.2.2.2.2
  have hw : WD g A s H locs [bO t 4 (tF (lad 0) ad (d 0) (d 9) (d 5) (d 6) (d 7) (d 1) (d 8)), bI g x 10 f] := hw
  have hl : lv_has ls 4 [(0, .ref t), (1, .ref x)] := hl
  refine lv_iconst (v := 0) hx hb dX4_total_0 (by decide) ?_
  refine lv_istore_n (lv' := [(2, .int 0), (0, .ref t), (1, .ref x)]) hx hb dX4_total_1 rfl hl (by decide) rfl (fun ls hl => ?_)
  refine lv_iconst (v := 0) hx hb dX4_total_2 (by decide) ?_
  refine lv_istore_n (lv' := [(3, .int 0), (2, .int 0), (0, .ref t), (1, .ref x)]) hx hb dX4_total_3 rfl hl (by decide) rfl (fun ls hl => ?_)
  have L4 : ∀ (fu : Nat) (i : Nat), (i ≤ n) → (n < i + fu) → ∀ (H : Heap) (locs : List Loc) (ls : Array Slot), WD g A s H locs [bO t 4 (tF (lad 0) ad (d 0) (d 9) (d 5) (d 6) (d 7) (d 1) (d 8)), bI g x 10 f] → lv_has ls 4 [(0, .ref t), (1, .ref x), (2, .int (itn (fun h x => x + f h) i 0)), (3, .int (nI i))] → W p l e (rmx 0 0 0) s m args below meth c H locs 0 0 Qf (F0 m 4 ls []) := by
    intro fu
    induction fu with
    | zero => intro i hi hfu; exfalso; omega
    | succ fu ih4 =>
      intro i hi hfu H locs ls hw hl
      refine lv_iload_n hx hb dX4_total_4 rfl (lv_at hl 3 rfl) ?_
      refine lv_aload_n hx hb dX4_total_5 rfl (lv_at hl 0 rfl) ?_
      refine s_get (v := .int (d 0)) fb4 cf hw 0 rfl 8 rfl q173 rfl dX4_total_6 ?_
      refine lv_icmp_ge (tgt := 30) hx hb dX4_total_9 (by decide) (fun c9 => ?_) (fun c9 => ?_)
      · have hi2 : n = i := by rw [hn] at c9; have := nI_le_of (by omega) c9 (by omega); omega
        refine lv_iload_n hx hb dX4_total_30 rfl (lv_at hl 2 rfl) ?_
        exact s_iret cf hr hlk () hw (by rw [hi2]) (Nat.le_of_ble_eq_true rfl) (Nat.le_of_ble_eq_true rfl) dX4_total_31 hQ
      · have hlt : i < n := by rw [hn] at c9; exact nI_lt_of (by omega) c9 (by omega)
        refine lv_iload_n hx hb dX4_total_12 rfl (lv_at hl 3 rfl) ?_
        refine lv_aload_n hx hb dX4_total_13 rfl (lv_at hl 1 rfl) ?_
        refine s_alen (n32 := 10) cf hw 0 rfl 1 rfl rfl dX4_total_14 ?_
        refine lv_icmp_ge (tgt := 30) hx hb dX4_total_15 (by decide) (fun c15 => ?_) (fun c15 => ?_)
        · exact absurd (nI_le_of (n := 10) (by omega) c15 (by omega)) (by omega)
        · refine lv_iload_n hx hb dX4_total_18 rfl (lv_at hl 2 rfl) ?_
          refine lv_aload_n hx hb dX4_total_19 rfl (lv_at hl 1 rfl) ?_
          refine lv_iload_n hx hb dX4_total_20 rfl (lv_at hl 3 rfl) ?_
          refine s_iald (j := i) cf hw 1 rfl (rfl) (by omega) rfl dX4_total_21 ?_
          refine lv_iadd hx hb dX4_total_22 ?_
          refine lv_istore_n (lv' := [(2, .int ((itn (fun h x => x + f h) i 0) + (f i))), (0, .ref t), (1, .ref x), (3, .int (nI i))]) hx hb dX4_total_23 rfl hl (by decide) rfl (fun ls hl => ?_)
          refine lv_iinc (v := nI (i + 1)) (lv' := [(3, .int (nI (i + 1))), (2, .int ((itn (fun h x => x + f h) i 0) + (f i))), (0, .ref t), (1, .ref x)]) hx hb dX4_total_24 hl (k := 3) rfl (nI_1 i) (by decide) rfl (fun ls hl => ?_)
          refine lv_goto (tgt := 4) hx hb dX4_total_27 (by decide) ?_
          exact ih4 (i + 1) (by omega) (by omega) _ _ _ hw (lv_sub hl [2, 3, 1, 0] rfl)
  exact L4 (n + 1) 0 (by omega) (by omega) _ _ _ hw (lv_sub hl [2, 3, 1, 0] rfl)
set_option maxRecDepth 100000 in
set_option maxHeartbeats 4000000 in
theorem x_reading {l : Launch} {g : GG} {t : Nat} {lad ad : Nat → Nat} {d cn : DD} {n : Nat} (hn : d 0 = nI n) (hn10 : n ≤ 10) (w : Int32) : Ct l g yX4_reading cX4_reading 2 (Option.some Jvm.ClassFile.FieldType.int) 1 0 0 [.ref t, .int w] [bO t 4 (tF (lad 0) ad (d 0) (d 9) (d 5) (d 6) (d 7) (d 1) (d 8)), bI g (ad 4) 10 (col d 3)] (QI g (fun r (_ : Unit) => r = readingF d w) (fun _ => [bO t 4 (tF (lad 0) ad (d 0) (d 9) (d 5) (d 6) (d 7) (d 1) (d 8)), bI g (ad 4) 10 (col d 3)])) := by
  refine Ct.of (by decide) rfl ?_
  intro p e s m args below meth c A H locs ls Qf cf hr hlk hnm hQ hw hl
  have hx := cf.1
  have hb := cf.2.1
  have hml := cf.2.2.1
  have hown := cf.2.2.2.1
  have hts := cf.2.2.2.2
  have hw : WD g A s H locs [bO t 4 (tF (lad 0) ad (d 0) (d 9) (d 5) (d 6) (d 7) (d 1) (d 8)), bI g (ad 4) 10 (col d 3)] := hw
  have hl : lv_has ls 2 [(0, .ref t), (1, .int w)] := hl
  refine lv_iload_n hx hb dX4_reading_0 rfl (lv_at hl 1 rfl) ?_
  by_cases t1_0 : w = 0
  · refine lv_tableIn (tgt := 36) (off := 35) hx hb dX4_reading_1 (by rw [t1_0]; decide) (by rw [t1_0]; decide) (by rw [t1_0]; decide) (by decide) ?_
    refine lv_aload_n hx hb dX4_reading_36 rfl (lv_at hl 0 rfl) ?_
    refine s_get (v := .int (d 6)) fb4 cf hw 0 rfl 11 rfl q179 rfl dX4_reading_37 ?_
    exact s_iret cf hr hlk () hw (by unfold readingF; rw [if_pos t1_0]) (Nat.le_of_ble_eq_true rfl) (Nat.le_of_ble_eq_true rfl) dX4_reading_40 hQ
  by_cases t1_1 : w = 1
  · refine lv_tableIn (tgt := 41) (off := 40) hx hb dX4_reading_1 (by rw [t1_1]; decide) (by rw [t1_1]; decide) (by rw [t1_1]; decide) (by decide) ?_
    refine lv_aload_n hx hb dX4_reading_41 rfl (lv_at hl 0 rfl) ?_
    refine s_get (v := .int (d 7)) fb4 cf hw 0 rfl 12 rfl q181 rfl dX4_reading_42 ?_
    exact s_iret cf hr hlk () hw (by unfold readingF; rw [if_neg t1_0, if_pos t1_1]) (Nat.le_of_ble_eq_true rfl) (Nat.le_of_ble_eq_true rfl) dX4_reading_45 hQ
  by_cases t1_2 : w = 2
  · refine lv_tableIn (tgt := 46) (off := 45) hx hb dX4_reading_1 (by rw [t1_2]; decide) (by rw [t1_2]; decide) (by rw [t1_2]; decide) (by decide) ?_
    refine lv_aload_n hx hb dX4_reading_46 rfl (lv_at hl 0 rfl) ?_
    refine s_calli (runV cf (x_coldOnes (t := t) (lad := lad) (ad := ad) (d := d) (cn := cn) (n := n) hn hn10) hw [0, 1] (by decide) rfl km_X4_coldOnes ki_X4_coldOnes q531 (run_recv (ci := 4) (T := TX4) (N := 15) hw 0 rfl rfl) rfl rfl hl.1 rfl dX4_reading_47) hw [0, 1] (by decide) rfl (fun _ => rfl) (fun r_3 u_1 H locs hp_2 hw => ?_)
    have hw : WD g A s H locs [bO t 4 (tF (lad 0) ad (d 0) (d 9) (d 5) (d 6) (d 7) (d 1) (d 8)), bI g (ad 4) 10 (col d 3)] := hw
    subst hp_2
    exact s_iret cf hr hlk () hw (by unfold readingF; rw [if_neg t1_0, if_neg t1_1, if_pos t1_2]; exact (coldF_set (nH_of hn hn10)).symm) (Nat.le_of_ble_eq_true rfl) (Nat.le_of_ble_eq_true rfl) dX4_reading_50 hQ
  by_cases t1_3 : w = 3
  · refine lv_tableIn (tgt := 51) (off := 50) hx hb dX4_reading_1 (by rw [t1_3]; decide) (by rw [t1_3]; decide) (by rw [t1_3]; decide) (by decide) ?_
    refine lv_aload_n hx hb dX4_reading_51 rfl (lv_at hl 0 rfl) ?_
    refine s_get (v := .int (d 5)) fb4 cf hw 0 rfl 10 rfl q177 rfl dX4_reading_52 ?_
    exact s_iret cf hr hlk () hw (by unfold readingF; rw [if_neg t1_0, if_neg t1_1, if_neg t1_2, if_pos t1_3]) (Nat.le_of_ble_eq_true rfl) (Nat.le_of_ble_eq_true rfl) dX4_reading_55 hQ
  by_cases t1_4 : w = 4
  · refine lv_tableIn (tgt := 56) (off := 55) hx hb dX4_reading_1 (by rw [t1_4]; decide) (by rw [t1_4]; decide) (by rw [t1_4]; decide) (by decide) ?_
    refine lv_aload_n hx hb dX4_reading_56 rfl (lv_at hl 0 rfl) ?_
    refine lv_aload_n hx hb dX4_reading_57 rfl (lv_at hl 0 rfl) ?_
    refine s_get (v := .ref (ad 4)) fb4 cf hw 0 rfl 4 rfl q163 rfl dX4_reading_58 ?_
    refine s_calli (runV cf (x_total (t := t) (lad := lad) (ad := ad) (d := d) (cn := cn) (n := n) hn hn10 (x := ad 4) (f := col d 3)) hw [0, 1] (by decide) rfl km_X4_total ki_X4_total q535 (run_recv (ci := 4) (T := TX4) (N := 15) hw 0 rfl rfl) rfl rfl hl.1 rfl dX4_reading_61) hw [0, 1] (by decide) rfl (fun _ => rfl) (fun r_6 u_4 H locs hp_5 hw => ?_)
    have hw : WD g A s H locs [bO t 4 (tF (lad 0) ad (d 0) (d 9) (d 5) (d 6) (d 7) (d 1) (d 8)), bI g (ad 4) 10 (col d 3)] := hw
    subst hp_5
    exact s_iret cf hr hlk () hw (by unfold readingF; rw [if_neg t1_0, if_neg t1_1, if_neg t1_2, if_neg t1_3, if_pos t1_4]; unfold sumF; rw [nH_of hn hn10]; rfl) (Nat.le_of_ble_eq_true rfl) (Nat.le_of_ble_eq_true rfl) dX4_reading_64 hQ
  refine lv_tableOut (tgt := 65) hx hb dX4_reading_1 (by have e0 := lv_neT t1_0 (show (0 : Int32).toInt = 0 from rfl); have e1 := lv_neT t1_1 (show (1 : Int32).toInt = 1 from rfl); have e2 := lv_neT t1_2 (show (2 : Int32).toInt = 2 from rfl); have e3 := lv_neT t1_3 (show (3 : Int32).toInt = 3 from rfl); have e4 := lv_neT t1_4 (show (4 : Int32).toInt = 4 from rfl); omega) (by decide) ?_
  refine lv_ldc hx hb hown (hts _ q536) dX4_reading_65 ?_
  exact s_iret cf hr hlk () hw (by unfold readingF; rw [if_neg t1_0, if_neg t1_1, if_neg t1_2, if_neg t1_3, if_neg t1_4]) (Nat.le_of_ble_eq_true rfl) (Nat.le_of_ble_eq_true rfl) dX4_reading_67 hQ
set_option maxRecDepth 100000 in
set_option maxHeartbeats 4000000 in
theorem x_loudest {l : Launch} {g : GG} {t : Nat} {lad ad : Nat → Nat} {d cn : DD} {n : Nat} (hn : d 0 = nI n) (hn10 : n ≤ 10) (hI : InvH d) : Ct l g yX4_loudest cX4_loudest 4 (Option.some Jvm.ClassFile.FieldType.int) 0 0 0 [.ref t] [bO t 4 (tF (lad 0) ad (d 0) (d 9) (d 5) (d 6) (d 7) (d 1) (d 8)), bI g (ad 5) 10 (col d 4)] (QI g (fun r (_ : Unit) => r = loudestF d) (fun _ => [bO t 4 (tF (lad 0) ad (d 0) (d 9) (d 5) (d 6) (d 7) (d 1) (d 8)), bI g (ad 5) 10 (col d 4)])) := by
  refine Ct.of (by decide) rfl ?_
  intro p e s m args below meth c A H locs ls Qf cf hr hlk hnm hQ hw hl
  have hx := cf.1
  have hb := cf.2.1
  have hml := cf.2.2.1
  have hown := cf.2.2.2.1
  have hts := cf.2.2.2.2
  have hw : WD g A s H locs [bO t 4 (tF (lad 0) ad (d 0) (d 9) (d 5) (d 6) (d 7) (d 1) (d 8)), bI g (ad 5) 10 (col d 4)] := hw
  have hl : lv_has ls 4 [(0, .ref t)] := hl
  refine lv_ldc hx hb hown (hts _ q153) dX4_loudest_0 ?_
  refine lv_istore_n (lv' := [(1, .int (-1000000005)), (0, .ref t)]) hx hb dX4_loudest_2 rfl hl (by decide) rfl (fun ls hl => ?_)
  refine lv_iconst (v := (-1)) hx hb dX4_loudest_3 (by decide) ?_
  refine lv_istore_n (lv' := [(2, .int (-1)), (1, .int (-1000000005)), (0, .ref t)]) hx hb dX4_loudest_4 rfl hl (by decide) rfl (fun ls hl => ?_)
  refine lv_iconst (v := 0) hx hb dX4_loudest_5 (by decide) ?_
  refine lv_istore_n (lv' := [(3, .int 0), (2, .int (-1)), (1, .int (-1000000005)), (0, .ref t)]) hx hb dX4_loudest_6 rfl hl (by decide) rfl (fun ls hl => ?_)
  have L7 : ∀ (fu : Nat) (i : Nat), (i ≤ n) → (n < i + fu) → ∀ (H : Heap) (locs : List Loc) (ls : Array Slot), WD g A s H locs [bO t 4 (tF (lad 0) ad (d 0) (d 9) (d 5) (d 6) (d 7) (d 1) (d 8)), bI g (ad 5) 10 (col d 4)] → lv_has ls 4 [(0, .ref t), (1, .int (lbI d i)), (2, .int (lmI d i)), (3, .int (nI i))] → W p l e (rmx 0 0 0) s m args below meth c H locs 0 0 Qf (F0 m 7 ls []) := by
    intro fu
    induction fu with
    | zero => intro i hi hfu; exfalso; omega
    | succ fu ih7 =>
      intro i hi hfu H locs ls hw hl
      refine lv_iload_n hx hb dX4_loudest_7 rfl (lv_at hl 3 rfl) ?_
      refine lv_aload_n hx hb dX4_loudest_8 rfl (lv_at hl 0 rfl) ?_
      refine s_get (v := .int (d 0)) fb4 cf hw 0 rfl 8 rfl q173 rfl dX4_loudest_9 ?_
      refine lv_icmp_ge (tgt := 40) hx hb dX4_loudest_12 (by decide) (fun c12 => ?_) (fun c12 => ?_)
      · have hi2 : n = i := by rw [hn] at c12; have := nI_le_of (by omega) c12 (by omega); omega
        refine lv_iload_n hx hb dX4_loudest_40 rfl (lv_at hl 1 rfl) ?_
        exact s_iret cf hr hlk () hw (by rw [loudest_lb (nH_of hn hn10), hi2]) (Nat.le_of_ble_eq_true rfl) (Nat.le_of_ble_eq_true rfl) dX4_loudest_41 hQ
      · have hlt : i < n := by rw [hn] at c12; exact nI_lt_of (by omega) c12 (by omega)
        refine lv_aload_n hx hb dX4_loudest_15 rfl (lv_at hl 0 rfl) ?_
        refine s_get (v := .ref (ad 5)) fb4 cf hw 0 rfl 5 rfl q166 rfl dX4_loudest_16 ?_
        refine lv_iload_n hx hb dX4_loudest_19 rfl (lv_at hl 3 rfl) ?_
        refine s_iald (j := i) cf hw 1 rfl (rfl) (by omega) rfl dX4_loudest_20 ?_
        refine lv_topr (y := d (10 + 5 * i + 4)) (rfl) ?_
        refine lv_iload_n hx hb dX4_loudest_21 rfl (lv_at hl 2 rfl) ?_
        refine lv_icmp_le (tgt := 34) hx hb dX4_loudest_22 (by decide) (fun c22 => ?_) (fun c22 => ?_)
        · have e1 := lb_le hI c22
          have hl : lv_has ls 4 [(0, .ref t), (1, .int (lbI d (i + 1))), (2, .int (lmI d i)), (3, .int (nI i))] := by rw [e1.1]; exact hl
          have hl : lv_has ls 4 [(0, .ref t), (1, .int (lbI d (i + 1))), (2, .int (lmI d (i + 1))), (3, .int (nI i))] := by rw [e1.2]; exact hl
          refine lv_iinc (v := nI (i + 1)) (lv' := [(3, .int (nI (i + 1))), (0, .ref t), (1, .int (lbI d (i + 1))), (2, .int (lmI d (i + 1)))]) hx hb dX4_loudest_34 hl (k := 3) rfl (nI_1 i) (by decide) rfl (fun ls hl => ?_)
          refine lv_goto (tgt := 7) hx hb dX4_loudest_37 (by decide) ?_
          exact ih7 (i + 1) (by omega) (by omega) _ _ _ hw (lv_sub hl [1, 2, 3, 0] rfl)
        · refine lv_iload_n hx hb dX4_loudest_25 rfl (lv_at hl 3 rfl) ?_
          refine lv_istore_n (lv' := [(1, .int (nI i)), (0, .ref t), (2, .int (lmI d i)), (3, .int (nI i))]) hx hb dX4_loudest_26 rfl hl (by decide) rfl (fun ls hl => ?_)
          refine lv_aload_n hx hb dX4_loudest_27 rfl (lv_at hl 1 rfl) ?_
          refine s_get (v := .ref (ad 5)) fb4 cf hw 0 rfl 5 rfl q166 rfl dX4_loudest_28 ?_
          refine lv_iload_n hx hb dX4_loudest_31 rfl (lv_at hl 3 rfl) ?_
          refine s_iald (j := i) cf hw 1 rfl (rfl) (by omega) rfl dX4_loudest_32 ?_
          refine lv_topr (y := d (10 + 5 * i + 4)) (rfl) ?_
          refine lv_istore_n (lv' := [(2, .int (d (10 + 5 * i + 4))), (1, .int (nI i)), (0, .ref t), (3, .int (nI i))]) hx hb dX4_loudest_33 rfl hl (by decide) rfl (fun ls hl => ?_)
          have e1 := lb_gt c22
          have hl : lv_has ls 4 [(2, .int (d (10 + 5 * i + 4))), (1, .int (lbI d (i + 1))), (0, .ref t), (3, .int (nI i))] := by rw [e1.1]; exact hl
          have hl : lv_has ls 4 [(2, .int (lmI d (i + 1))), (1, .int (lbI d (i + 1))), (0, .ref t), (3, .int (nI i))] := by rw [e1.2]; exact hl
          refine lv_iinc (v := nI (i + 1)) (lv' := [(3, .int (nI (i + 1))), (2, .int (lmI d (i + 1))), (1, .int (lbI d (i + 1))), (0, .ref t)]) hx hb dX4_loudest_34 hl (k := 3) rfl (nI_1 i) (by decide) rfl (fun ls hl => ?_)
          refine lv_goto (tgt := 7) hx hb dX4_loudest_37 (by decide) ?_
          exact ih7 (i + 1) (by omega) (by omega) _ _ _ hw (lv_sub hl [3, 2, 1, 0] rfl)
  exact L7 (n + 1) 0 (by omega) (by omega) _ _ _ hw (lv_sub hl [3, 2, 1, 0] rfl)
set_option maxRecDepth 100000 in
set_option maxHeartbeats 4000000 in
theorem x_mostCoal {l : Launch} {g : GG} {t : Nat} {lad ad : Nat → Nat} {d cn : DD} {n : Nat} (hn : d 0 = nI n) (hn10 : n ≤ 10) (hI : InvH d) {ni : Nat} (hni : d 1 = nI ni) (N : Nat) (hni2 : ni + N < 1000000) (j : Nat) (hj : j < n) : Ct l g yX4_mostCoal cX4_mostCoal 5 (Option.some Jvm.ClassFile.FieldType.int) 2 0 0 [.ref t, .int (nI j), .int (nI N)] [bO t 4 (tF (lad 0) ad (d 0) (d 9) (d 5) (d 6) (d 7) (d 1) (d 8)), bI g (ad 1) 10 (col d 0), bI g (ad 4) 10 (col d 3), bI g (ad 6) 3 (rulF d)] (QI g (fun r (_ : Unit) => r = mcF d j ni n N) (fun _ => [bO t 4 (tF (lad 0) ad (d 0) (d 9) (d 5) (d 6) (d 7) (d 1) (d 8)), bI g (ad 1) 10 (col d 0), bI g (ad 4) 10 (col d 3), bI g (ad 6) 3 (rulF d)])) := by
  refine Ct.of (by decide) rfl ?_
  intro p e s m args below meth c A H locs ls Qf cf hr hlk hnm hQ hw hl
  have hx := cf.1
  have hb := cf.2.1
  have hml := cf.2.2.1
  have hown := cf.2.2.2.1
  have hts := cf.2.2.2.2
  have hw : WD g A s H locs [bO t 4 (tF (lad 0) ad (d 0) (d 9) (d 5) (d 6) (d 7) (d 1) (d 8)), bI g (ad 1) 10 (col d 0), bI g (ad 4) 10 (col d 3), bI g (ad 6) 3 (rulF d)] := hw
  have hl : lv_has ls 5 [(0, .ref t), (1, .int (nI j)), (2, .int (nI N))] := hl
  have hn0 : 0 < n := by omega
  have br := hI 3 99 rfl
  have bb := burns_rng (d := d) j
  refine lv_aload_n hx hb dX4_mostCoal_0 rfl (lv_at hl 0 rfl) ?_
  refine s_get (v := .ref (ad 4)) fb4 cf hw 0 rfl 4 rfl q163 rfl dX4_mostCoal_1 ?_
  refine lv_iload_n hx hb dX4_mostCoal_4 rfl (lv_at hl 1 rfl) ?_
  refine s_iald (j := j) cf hw 2 rfl (rfl) (by omega) rfl dX4_mostCoal_5 ?_
  refine lv_topr (y := d (10 + 5 * j + 3)) (rfl) ?_
  refine lv_istore_n (lv' := [(3, .int (d (10 + 5 * j + 3))), (0, .ref t), (1, .int (nI j)), (2, .int (nI N))]) hx hb dX4_mostCoal_6 rfl hl (by decide) rfl (fun ls hl => ?_)
  refine lv_iconst (v := 0) hx hb dX4_mostCoal_7 (by decide) ?_
  refine lv_istore (lv' := [(4, .int 0), (3, .int (d (10 + 5 * j + 3))), (0, .ref t), (1, .int (nI j)), (2, .int (nI N))]) hx hb dX4_mostCoal_8 hl (by decide) rfl (fun ls hl => ?_)
  have L10 : ∀ (fu : Nat) (k : Nat), (k ≤ N) → (N < k + fu) → ∀ (H : Heap) (locs : List Loc) (ls : Array Slot), WD g A s H locs [bO t 4 (tF (lad 0) ad (d 0) (d 9) (d 5) (d 6) (d 7) (d 1) (d 8)), bI g (ad 1) 10 (col d 0), bI g (ad 4) 10 (col d 3), bI g (ad 6) 3 (rulF d)] → lv_has ls 5 [(0, .ref t), (1, .int (nI j)), (2, .int (nI N)), (3, .int (mcF d j ni n k)), (4, .int (nI k))] → W p l e (rmx 2 0 0) s m args below meth c H locs 0 0 Qf (F0 m 10 ls []) := by
    intro fu
    induction fu with
    | zero => intro k hk hfu; exfalso; omega
    | succ fu ih10 =>
      intro k hk hfu H locs ls hw hl
      have bm := mc_rng (j := j) (ni := ni) (n := n) hI k
      have hmod := Nat.mod_lt (ni + k) hn0
      refine lv_iload hx hb dX4_mostCoal_10 (lv_at hl 4 rfl) ?_
      refine lv_iload_n hx hb dX4_mostCoal_12 rfl (lv_at hl 2 rfl) ?_
      refine lv_icmp_ge (tgt := 71) hx hb dX4_mostCoal_13 (by decide) (fun c13 => ?_) (fun c13 => ?_)
      · have hi2 : N = k := by have := nI_le_of (by omega) c13 (by omega); omega
        refine lv_iload_n hx hb dX4_mostCoal_71 rfl (lv_at hl 3 rfl) ?_
        exact s_iret cf hr hlk () hw (by rw [hi2]) (Nat.le_of_ble_eq_true rfl) (Nat.le_of_ble_eq_true rfl) dX4_mostCoal_72 hQ
      · have hlt : k < N := nI_lt_of (by omega) c13 (by omega)
        refine lv_aload_n hx hb dX4_mostCoal_16 rfl (lv_at hl 0 rfl) ?_
        refine s_get (v := .int (d 0)) fb4 cf hw 0 rfl 8 rfl q173 rfl dX4_mostCoal_17 ?_
        refine lv_topr (y := nI n) (hn) ?_
        refine lv_if_le (tgt := 71) hx hb dX4_mostCoal_20 (by decide) (fun c20 => ?_) (fun c20 => ?_)
        · exact absurd c20 (nI_nle hn0 (by omega))
        · refine lv_aload_n hx hb dX4_mostCoal_23 rfl (lv_at hl 0 rfl) ?_
          refine s_get (v := .int (d 1)) fb4 cf hw 0 rfl 13 rfl q182 rfl dX4_mostCoal_24 ?_
          refine lv_iload hx hb dX4_mostCoal_27 (lv_at hl 4 rfl) ?_
          refine lv_iadd hx hb dX4_mostCoal_29 ?_
          refine lv_aload_n hx hb dX4_mostCoal_30 rfl (lv_at hl 0 rfl) ?_
          refine s_get (v := .int (d 0)) fb4 cf hw 0 rfl 8 rfl q173 rfl dX4_mostCoal_31 ?_
          refine lv_irem hx hb dX4_mostCoal_34 (by rw [hn]; exact nI_ne0 hn0 (by omega)) ?_
          refine lv_topr (y := nI ((ni + k) % n)) (by rw [hni, hn, nI_add]; exact rem_nat (by omega) hn0 (by omega)) ?_
          refine lv_iload_n hx hb dX4_mostCoal_35 rfl (lv_at hl 1 rfl) ?_
          refine lv_icmp_ne (tgt := 53) hx hb dX4_mostCoal_36 (by decide) (fun c36 => ?_) (fun c36 => ?_)
          · have q53 : (if (ni + k) % n = j then held (mcF d j ni n k + d 3) 0 99 else mcF d j ni n k) = mcF d j ni n k := if_neg (fun z => c36 (by rw [z]))
            have hl : lv_has ls 5 [(0, .ref t), (1, .int (nI j)), (2, .int (nI N)), (3, .int (if (ni + k) % n = j then held (mcF d j ni n k + d 3) 0 99 else mcF d j ni n k)), (4, .int (nI k))] := by rw [q53]; exact hl
            have b53 : 0 ≤ (if (ni + k) % n = j then held (mcF d j ni n k + d 3) 0 99 else mcF d j ni n k) ∧ (if (ni + k) % n = j then held (mcF d j ni n k + d 3) 0 99 else mcF d j ni n k) ≤ 99 := by split; exact held_rng _ 99 (by decide); exact mc_rng hI k
            refine lv_iconst (v := 0) hx hb dX4_mostCoal_53 (by decide) ?_
            refine lv_iload_n hx hb dX4_mostCoal_54 rfl (lv_at hl 3 rfl) ?_
            refine lv_aload_n hx hb dX4_mostCoal_55 rfl (lv_at hl 0 rfl) ?_
            refine lv_iload_n hx hb dX4_mostCoal_56 rfl (lv_at hl 1 rfl) ?_
            refine s_calli (runV cf (x_burns (cn := cn) (lad := lad) (ad := ad) (d := d) (t := t) j (by omega) hI) hw [0, 1] (by decide) rfl km_X4_burns ki_X4_burns q510 (run_recv (ci := 4) (T := TX4) (N := 15) hw 0 rfl rfl) rfl rfl hl.1 rfl dX4_mostCoal_57) hw [0, 1] (by decide) rfl (fun _ => rfl) (fun r_3 u_1 H locs hp_2 hw => ?_)
            have hw : WD g A s H locs [bO t 4 (tF (lad 0) ad (d 0) (d 9) (d 5) (d 6) (d 7) (d 1) (d 8)), bI g (ad 1) 10 (col d 0), bI g (ad 4) 10 (col d 3), bI g (ad 6) 3 (rulF d)] := hw
            subst hp_2
            refine lv_isub hx hb dX4_mostCoal_60 ?_
            refine va_mmax hx hb (by rw [hml]; exact hl.1.symm) hown (hts _ q406) (hts _ ks_J9_max_7cf53) (hts _ km_J9_max_7cf53.1) (hts _ km_J9_max_7cf53.2.1) (Nat.le_of_ble_eq_true rfl) (Nat.le_of_ble_eq_true rfl) (Nat.le_of_ble_eq_true rfl) (Nat.le_of_ble_eq_true rfl) dX4_mostCoal_61 ?_
            refine lv_topr (y := mcF d j ni n (k + 1)) (max_held (sub_le b53.1 b53.2 bb.1 bb.2)) ?_
            refine lv_istore_n (lv' := [(3, .int (mcF d j ni n (k + 1))), (0, .ref t), (1, .int (nI j)), (2, .int (nI N)), (4, .int (nI k))]) hx hb dX4_mostCoal_64 rfl hl (by decide) rfl (fun ls hl => ?_)
            refine lv_iinc (v := nI (k + 1)) (lv' := [(4, .int (nI (k + 1))), (3, .int (mcF d j ni n (k + 1))), (0, .ref t), (1, .int (nI j)), (2, .int (nI N))]) hx hb dX4_mostCoal_65 hl (k := 4) rfl (nI_1 k) (by decide) rfl (fun ls hl => ?_)
            refine lv_goto (tgt := 10) hx hb dX4_mostCoal_68 (by decide) ?_
            exact ih10 (k + 1) (by omega) (by omega) _ _ _ hw (lv_sub hl [2, 3, 4, 1, 0] rfl)
          · refine lv_bipush (v := 99) hx hb dX4_mostCoal_39 (by decide) ?_
            refine lv_iload_n hx hb dX4_mostCoal_41 rfl (lv_at hl 3 rfl) ?_
            refine lv_aload_n hx hb dX4_mostCoal_42 rfl (lv_at hl 0 rfl) ?_
            refine s_get (v := .ref (ad 6)) fb4 cf hw 0 rfl 6 rfl q169 rfl dX4_mostCoal_43 ?_
            refine lv_iconst (v := 1) hx hb dX4_mostCoal_46 (by decide) ?_
            refine s_iald (j := 1) cf hw 3 rfl (rfl) (by decide) rfl dX4_mostCoal_47 ?_
            refine lv_topr (y := d 3) (rfl) ?_
            refine lv_iadd hx hb dX4_mostCoal_48 ?_
            refine va_mmin hx hb (by rw [hml]; exact hl.1.symm) hown (hts _ q417) (hts _ ks_J9_min_7cf53) (hts _ km_J9_min_7cf53.1) (hts _ km_J9_min_7cf53.2.1) (Nat.le_of_ble_eq_true rfl) (Nat.le_of_ble_eq_true rfl) (Nat.le_of_ble_eq_true rfl) (Nat.le_of_ble_eq_true rfl) dX4_mostCoal_49 ?_
            refine lv_topr (y := held (mcF d j ni n k + d 3) 0 99) (min_held (add_nn bm.1 bm.2 br.1 br.2 (by decide) (by decide)) (by decide)) ?_
            refine lv_istore_n (lv' := [(3, .int (held (mcF d j ni n k + d 3) 0 99)), (0, .ref t), (1, .int (nI j)), (2, .int (nI N)), (4, .int (nI k))]) hx hb dX4_mostCoal_52 rfl hl (by decide) rfl (fun ls hl => ?_)
            have q53 : (if (ni + k) % n = j then held (mcF d j ni n k + d 3) 0 99 else mcF d j ni n k) = held (mcF d j ni n k + d 3) 0 99 := if_pos ((nI_eq (by omega) (by omega)).mp c36)
            have hl : lv_has ls 5 [(3, .int (if (ni + k) % n = j then held (mcF d j ni n k + d 3) 0 99 else mcF d j ni n k)), (0, .ref t), (1, .int (nI j)), (2, .int (nI N)), (4, .int (nI k))] := by rw [q53]; exact hl
            have b53 : 0 ≤ (if (ni + k) % n = j then held (mcF d j ni n k + d 3) 0 99 else mcF d j ni n k) ∧ (if (ni + k) % n = j then held (mcF d j ni n k + d 3) 0 99 else mcF d j ni n k) ≤ 99 := by split; exact held_rng _ 99 (by decide); exact mc_rng hI k
            refine lv_iconst (v := 0) hx hb dX4_mostCoal_53 (by decide) ?_
            refine lv_iload_n hx hb dX4_mostCoal_54 rfl (lv_at hl 0 rfl) ?_
            refine lv_aload_n hx hb dX4_mostCoal_55 rfl (lv_at hl 1 rfl) ?_
            refine lv_iload_n hx hb dX4_mostCoal_56 rfl (lv_at hl 2 rfl) ?_
            refine s_calli (runV cf (x_burns (cn := cn) (lad := lad) (ad := ad) (d := d) (t := t) j (by omega) hI) hw [0, 1] (by decide) rfl km_X4_burns ki_X4_burns q510 (run_recv (ci := 4) (T := TX4) (N := 15) hw 0 rfl rfl) rfl rfl hl.1 rfl dX4_mostCoal_57) hw [0, 1] (by decide) rfl (fun _ => rfl) (fun r_6 u_4 H locs hp_5 hw => ?_)
            have hw : WD g A s H locs [bO t 4 (tF (lad 0) ad (d 0) (d 9) (d 5) (d 6) (d 7) (d 1) (d 8)), bI g (ad 1) 10 (col d 0), bI g (ad 4) 10 (col d 3), bI g (ad 6) 3 (rulF d)] := hw
            subst hp_5
            refine lv_isub hx hb dX4_mostCoal_60 ?_
            refine va_mmax hx hb (by rw [hml]; exact hl.1.symm) hown (hts _ q406) (hts _ ks_J9_max_7cf53) (hts _ km_J9_max_7cf53.1) (hts _ km_J9_max_7cf53.2.1) (Nat.le_of_ble_eq_true rfl) (Nat.le_of_ble_eq_true rfl) (Nat.le_of_ble_eq_true rfl) (Nat.le_of_ble_eq_true rfl) dX4_mostCoal_61 ?_
            refine lv_topr (y := mcF d j ni n (k + 1)) (max_held (sub_le b53.1 b53.2 bb.1 bb.2)) ?_
            refine lv_istore_n (lv' := [(3, .int (mcF d j ni n (k + 1))), (0, .ref t), (1, .int (nI j)), (2, .int (nI N)), (4, .int (nI k))]) hx hb dX4_mostCoal_64 rfl hl (by decide) rfl (fun ls hl => ?_)
            refine lv_iinc (v := nI (k + 1)) (lv' := [(4, .int (nI (k + 1))), (3, .int (mcF d j ni n (k + 1))), (0, .ref t), (1, .int (nI j)), (2, .int (nI N))]) hx hb dX4_mostCoal_65 hl (k := 4) rfl (nI_1 k) (by decide) rfl (fun ls hl => ?_)
            refine lv_goto (tgt := 10) hx hb dX4_mostCoal_68 (by decide) ?_
            exact ih10 (k + 1) (by omega) (by omega) _ _ _ hw (lv_sub hl [2, 3, 4, 1, 0] rfl)
  exact L10 (N + 1) 0 (by omega) (by omega) _ _ _ hw (lv_sub hl [2, 3, 4, 1, 0] rfl)
