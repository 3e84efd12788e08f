def n6 : List Value := [.null, .null, .null, .null, .int 0, .null, .null, .int 0, .null, .null, .null, .int 0, .null]
def n7 : List Value := [.null, .null, .null, .null, .int 0, .null, .null, .null, .null, .null, .null, .int 0, .int 0, .int 0, .int 0, .long 0, .int 0, .int 0, .int 0, .int 0, .int 0, .int 0, .int 0, .null, .null, .null, .null, .null, .null, .null, .null, .null, .null, .null, .null, .null, .null, .null, .int 0]
theorem len1 {i : Nat} {x : va_W} : [i].length = [x].length := rfl
theorem wd_b0 {g : GG} {A : Nat → Prop} {s : State} {H : Heap} {locs : List Loc} {y z : va_W} (hw : WD g A s H locs (bset [y] [0] [z])) : WD g A s H locs [z] := hw
theorem wd_b1 {g : GG} {A : Nat → Prop} {s : State} {H : Heap} {locs : List Loc} {x y z : va_W} (hw : WD g A s H locs (bset [x, y] [1] [z])) : WD g A s H locs [x, z] := hw
theorem st_d6 : ∀ j, j < 13 → defaultValue (tyX6 j) = vp_V n6 j := by
  intro j hj
  match j, hj with
  | 0, _ => rfl
  | 1, _ => rfl
  | 2, _ => rfl
  | 3, _ => rfl
  | 4, _ => rfl
  | 5, _ => rfl
  | 6, _ => rfl
  | 7, _ => rfl
  | 8, _ => rfl
  | 9, _ => rfl
  | 10, _ => rfl
  | 11, _ => rfl
  | 12, _ => rfl
  | k + 13, hj => omega
theorem st_d7 : ∀ j, j < 39 → defaultValue (tyX7 j) = vp_V n7 j := by
  intro j hj
  match j, hj with
  | 0, _ => rfl
  | 1, _ => rfl
  | 2, _ => rfl
  | 3, _ => rfl
  | 4, _ => rfl
  | 5, _ => rfl
  | 6, _ => rfl
  | 7, _ => rfl
  | 8, _ => rfl
  | 9, _ => rfl
  | 10, _ => rfl
  | 11, _ => rfl
  | 12, _ => rfl
  | 13, _ => rfl
  | 14, _ => rfl
  | 15, _ => rfl
  | 16, _ => rfl
  | 17, _ => rfl
  | 18, _ => rfl
  | 19, _ => rfl
  | 20, _ => rfl
  | 21, _ => rfl
  | 22, _ => rfl
  | 23, _ => rfl
  | 24, _ => rfl
  | 25, _ => rfl
  | 26, _ => rfl
  | 27, _ => rfl
  | 28, _ => rfl
  | 29, _ => rfl
  | 30, _ => rfl
  | 31, _ => rfl
  | 32, _ => rfl
  | 33, _ => rfl
  | 34, _ => rfl
  | 35, _ => rfl
  | 36, _ => rfl
  | 37, _ => rfl
  | 38, _ => rfl
  | k + 39, hj => omega
set_option maxHeartbeats 1000000 in
set_option maxRecDepth 100000 in
theorem ws_5 {p : Program} {l : Launch} {e : Env} {s : State} {m : MethodId} {below : List Frame} {meth : Method} {c : Code} {b L : Nat} {xs : Nat → Int32} {g : GG} {A : Nat → Prop} {H : Heap} {locs : List Loc} {ls : Array Slot} {o a : Nat} {u v : Nat → Nat} (hA : ∀ q : Nat, A q → s.heap.size ≤ q) (hL : L ≤ 3072) (C0 : lw_At p s m meth c b L xs) (hl : lv_has ls 4 [(1, .ref o), (0, .ref b)]) (hw : WD g A s H locs [bO o 6 ([.ref (u 0), .ref (u 10), .ref (u 20), .ref (u 30), .int 0, .ref (u 45), .ref (u 46), .int 0, .ref (u 48), .ref (u 49), .ref (u 50), .int 0, .ref (u 52)]) ++ bO (u 0) 0 ([.ref (u 1), .ref (u 2), .ref (u 3)]) ++ bR g 4 (u 1) 14 (fun _ => none) ++ bI g (u 2) 6 (fun _ => 0) ++ bI g (u 3) 96 (fun _ => 0) ++ bO (u 10) 4 ([.ref (u 0), .ref (u 11), .ref (u 12), .ref (u 13), .ref (u 14), .ref (u 15), .ref (u 16), .ref (u 17), .int 0, .int 0, .int 0, .int 0, .int 0, .int 0, .int 1]) ++ bI g (u 11) 10 (fun _ => 0) ++ bI g (u 12) 10 (fun _ => 0) ++ bI g (u 13) 10 (fun _ => 0) ++ bI g (u 14) 10 (fun _ => 0) ++ bI g (u 15) 10 (fun _ => 0) ++ bI g (u 16) 3 frF ++ bI g (u 17) 3 (upd (upd (upd (fun _ => 0) 0 (-1000000005)) 1 (-1000000005)) 2 (-1000000005)) ++ bO (u 20) 4 ([.ref (u 0), .ref (u 21), .ref (u 22), .ref (u 23), .ref (u 24), .ref (u 25), .ref (u 26), .ref (u 27), .int 0, .int 0, .int 0, .int 0, .int 0, .int 0, .int 1]) ++ bI g (u 21) 10 (fun _ => 0) ++ bI g (u 22) 10 (fun _ => 0) ++ bI g (u 23) 10 (fun _ => 0) ++ bI g (u 24) 10 (fun _ => 0) ++ bI g (u 25) 10 (fun _ => 0) ++ bI g (u 26) 3 frF ++ bI g (u 27) 3 (upd (upd (upd (fun _ => 0) 0 (-1000000005)) 1 (-1000000005)) 2 (-1000000005)) ++ bO (u 30) 4 ([.ref (u 0), .ref (u 31), .ref (u 32), .ref (u 33), .ref (u 34), .ref (u 35), .ref (u 36), .ref (u 37), .int 0, .int 0, .int 0, .int 0, .int 0, .int 0, .int 1]) ++ bI g (u 31) 10 (fun _ => 0) ++ bI g (u 32) 10 (fun _ => 0) ++ bI g (u 33) 10 (fun _ => 0) ++ bI g (u 34) 10 (fun _ => 0) ++ bI g (u 35) 10 (fun _ => 0) ++ bI g (u 36) 3 frF ++ bI g (u 37) 3 (upd (upd (upd (fun _ => 0) 0 (-1000000005)) 1 (-1000000005)) 2 (-1000000005)) ++ bO (u 45) 1 ([.ref (u 53), .ref (u 54), .int 0, .int 0, .int 0, .int 0, .int 0, .int 0]) ++ bI g (u 53) 96 (fun _ => 0) ++ bI g (u 54) 96 (fun _ => 0) ++ bI g (u 46) 96 (fun _ => 0) ++ bR g 2 (u 48) 4 (va_up (va_up (va_up (va_up (fun _ => none) 0 (some (u 60))) 1 (some (u 61))) 2 (some (u 62))) 3 (some (u 63))) ++ bR g 3 (u 49) 5 (va_up (va_up (va_up (va_up (va_up (fun _ => none) 0 (some (u 80))) 1 (some (u 81))) 2 (some (u 82))) 3 (some (u 83))) 4 (some (u 84))) ++ bI g (u 50) 60 (fun _ => 0) ++ bI g (u 52) 10 (fun _ => 0) ++ bO (u 60) 2 ([.ref (u 70), .int (-1), .int 0]) ++ bI g (u 70) 24 (fun _ => 0) ++ bO (u 61) 2 ([.ref (u 71), .int (-1), .int 0]) ++ bI g (u 71) 24 (fun _ => 0) ++ bO (u 62) 2 ([.ref (u 72), .int (-1), .int 0]) ++ bI g (u 72) 24 (fun _ => 0) ++ bO (u 63) 2 ([.ref (u 73), .int (-1), .int 0]) ++ bI g (u 73) 24 (fun _ => 0) ++ bO (u 80) 3 ([.int 0, .int 0, .int 0, .int 0, .int 0, .int 0, .ref (u 90)]) ++ bO (u 90) 2 ([.ref (u 100), .int (-1), .int 0]) ++ bI g (u 100) 24 (fun _ => 0) ++ bO (u 81) 3 ([.int 0, .int 0, .int 0, .int 0, .int 0, .int 0, .ref (u 91)]) ++ bO (u 91) 2 ([.ref (u 101), .int (-1), .int 0]) ++ bI g (u 101) 24 (fun _ => 0) ++ bO (u 82) 3 ([.int 0, .int 0, .int 0, .int 0, .int 0, .int 0, .ref (u 92)]) ++ bO (u 92) 2 ([.ref (u 102), .int (-1), .int 0]) ++ bI g (u 102) 24 (fun _ => 0) ++ bO (u 83) 3 ([.int 0, .int 0, .int 0, .int 0, .int 0, .int 0, .ref (u 93)]) ++ bO (u 93) 2 ([.ref (u 103), .int (-1), .int 0]) ++ bI g (u 103) 24 (fun _ => 0) ++ bO (u 84) 3 ([.int 0, .int 0, .int 0, .int 0, .int 0, .int 0, .ref (u 94)]) ++ bO (u 94) 2 ([.ref (u 104), .int (-1), .int 0]) ++ bI g (u 104) 24 (fun _ => 0), bO a 7 (mF v 0 0 0 0 0 0 0 0 0 0 0 0 0 0) ++ bI g (v 0) 60 (upd (upd (upd (fun _ => 0) 2 10) 3 20) 8 1) ++ bI g (v 1) 60 (fun _ => 0) ++ bI g (v 2) 60 (fun _ => 0) ++ bI g (v 3) 60 (fun _ => 0) ++ bI g (v 5) 1344 (fun _ => 0) ++ bI g (v 6) 14 (fun _ => 0) ++ bI g (v 7) 14 (fun _ => 0) ++ bI g (v 8) 14 (fun _ => 0) ++ bI g (v 9) 96 (fun _ => 0) ++ bI g (v 10) 96 (fun _ => 0) ++ bI g (v 23) 96 (fun _ => 0) ++ bI g (v 24) 4 (upd (upd (upd (upd (fun _ => 0) 0 (-1)) 1 (-1)) 2 (-1)) 3 (-1)) ++ bI g (v 25) 4 (fun _ => 0) ++ bI g (v 26) 96 (fun _ => 0) ++ bZ g (v 27) 96 (fun _ => 0) ++ bI g (v 28) 10 (fun _ => 0) ++ bI g (v 29) 24 (fun _ => 0) ++ bZ g (v 30) 24 (fun _ => 0) ++ bI g (v 31) 5 (fun _ => 0) ++ bI g (v 32) 5 (fun _ => 0) ++ bI g (v 33) 5 (fun _ => 0) ++ bI g (v 34) 5 (fun _ => 0) ++ bI g (v 35) 120 (fun _ => 0) ++ bZ g (v 36) 120 (fun _ => 0) ++ bI g (v 37) 60 (fun _ => 0)]) : W p l e room_1 s m #[Value.ref b] below meth c H locs 87 3544 (lw_Z below #[Value.ref b] s) (F0 m 15 ls [.ref a]) := by
  have hx := C0.1
  have hb : c.code = cL_law := C0.2.1
  have li := li_start hw
  clear hw
  refine lv_astore_n (lv' := [(2, .ref a), (1, .ref o), (0, .ref b)]) hx hb dL_law_15 rfl hl (by decide) rfl (fun ls hl => ?_)
  refine lv_iconst (v := nI (6 * 0)) hx hb dL_law_16 (by decide) ?_
  refine lv_istore_n (lv' := [(3, .int (nI (6 * 0))), (2, .ref a), (1, .ref o), (0, .ref b)]) hx hb dL_law_17 rfl hl (by decide) rfl (fun ls hl => ?_)
  exact law_loop hA hL C0 513 0 87 3544 (by omega) (by omega) (by omega) H locs ls hl (by omega) li
set_option maxHeartbeats 1000000 in
set_option maxRecDepth 100000 in
theorem ws_4 {p : Program} {l : Launch} {e : Env} {s : State} {m : MethodId} {below : List Frame} {meth : Method} {c : Code} {b : Nat} {g : GG} {A : Nat → Prop} {H : Heap} {locs : List Loc} {ls : Array Slot} {o a : Nat} {cx : va_W} (hx : p.tables.exec = Jvm.exec) (hb : c.code = cL_law) (cf : CallFix p m c cL_law 4 s #[Value.ref b] gw "CoalHolesLaw") (hl : lv_has ls 4 [(1, .ref o), (0, .ref b)]) (hw : WD g A s H locs [cx, bO a 7 n7])
    (kk : ∀ (v : Nat → Nat) (H : Heap) (locs : List Loc), WD g A s H locs [cx, bO a 7 (mF v 0 0 0 0 0 0 0 0 0 0 0 0 0 0) ++ bI g (v 0) 60 (upd (upd (upd (fun _ => 0) 2 10) 3 20) 8 1) ++ bI g (v 1) 60 (fun _ => 0) ++ bI g (v 2) 60 (fun _ => 0) ++ bI g (v 3) 60 (fun _ => 0) ++ bI g (v 5) 1344 (fun _ => 0) ++ bI g (v 6) 14 (fun _ => 0) ++ bI g (v 7) 14 (fun _ => 0) ++ bI g (v 8) 14 (fun _ => 0) ++ bI g (v 9) 96 (fun _ => 0) ++ bI g (v 10) 96 (fun _ => 0) ++ bI g (v 23) 96 (fun _ => 0) ++ bI g (v 24) 4 (upd (upd (upd (upd (fun _ => 0) 0 (-1)) 1 (-1)) 2 (-1)) 3 (-1)) ++ bI g (v 25) 4 (fun _ => 0) ++ bI g (v 26) 96 (fun _ => 0) ++ bZ g (v 27) 96 (fun _ => 0) ++ bI g (v 28) 10 (fun _ => 0) ++ bI g (v 29) 24 (fun _ => 0) ++ bZ g (v 30) 24 (fun _ => 0) ++ bI g (v 31) 5 (fun _ => 0) ++ bI g (v 32) 5 (fun _ => 0) ++ bI g (v 33) 5 (fun _ => 0) ++ bI g (v 34) 5 (fun _ => 0) ++ bI g (v 35) 120 (fun _ => 0) ++ bZ g (v 36) 120 (fun _ => 0) ++ bI g (v 37) 60 (fun _ => 0)] → W p l e room_1 s m #[Value.ref b] below meth c H locs 87 3544 (lw_Z below #[Value.ref b] s) (F0 m 15 ls [.ref a])) : W p l e room_1 s m #[Value.ref b] below meth c H locs 62 1052 (lw_Z below #[Value.ref b] s) (F0 m 11 ls [.ref a]) := by
  unfold n7 at hw
  refine lv_dup hx hb dL_law_11 rfl ?_
  refine s_callv (runI cf (i_model (a_ := a)) hw [1] (by decide) rfl km_X7_init rfl ki_X7_init q917 rfl rfl hl.1 rfl dL_law_12) hw [1] (by decide) rfl (fun _ => len1) (fun v H locs hp hw => ?_)
  exact kk v H locs (wd_b1 hw)
set_option maxHeartbeats 1000000 in
set_option maxRecDepth 100000 in
theorem ws_3 {p : Program} {l : Launch} {e : Env} {s : State} {m : MethodId} {below : List Frame} {meth : Method} {c : Code} {b : Nat} {g : GG} {A : Nat → Prop} {H : Heap} {locs : List Loc} {ls : Array Slot} {cx : va_W} (cf : CallFix p m c cL_law 4 s #[Value.ref b] gw "CoalHolesLaw") (hw : WD g A s H locs [cx])
    (kk : ∀ (a : Nat) (H : Heap), WD g A s H locs [cx, bO a 7 n7] → W p l e room_1 s m #[Value.ref b] below meth c H locs 62 1052 (lw_Z below #[Value.ref b] s) (F0 m 11 ls [.ref a])) : W p l e room_1 s m #[Value.ref b] below meth c H locs 61 1013 (lw_Z below #[Value.ref b] s) (F0 m 8 ls []) := by
  refine s_new (fs := n7) fb7 cf hw q915 q916 q86 st_d7 (Nat.le_of_ble_eq_true rfl) (Nat.le_of_ble_eq_true rfl) dL_law_8 (fun a H hw => ?_)
  exact kk a H hw
set_option maxHeartbeats 1000000 in
set_option maxRecDepth 100000 in
theorem ws_2 {p : Program} {l : Launch} {e : Env} {s : State} {m : MethodId} {below : List Frame} {meth : Method} {c : Code} {b : Nat} {g : GG} {A : Nat → Prop} {H : Heap} {locs : List Loc} {ls : Array Slot} {o : Nat} (hx : p.tables.exec = Jvm.exec) (hb : c.code = cL_law) (cf : CallFix p m c cL_law 4 s #[Value.ref b] gw "CoalHolesLaw") (hl : lv_has ls 4 [(0, .ref b)]) (hw : WD g A s H locs [bO o 6 n6])
    (kk : ∀ (u : Nat → Nat) (H : Heap) (locs : List Loc), WD g A s H locs [bO o 6 ([.ref (u 0), .ref (u 10), .ref (u 20), .ref (u 30), .int 0, .ref (u 45), .ref (u 46), .int 0, .ref (u 48), .ref (u 49), .ref (u 50), .int 0, .ref (u 52)]) ++ bO (u 0) 0 ([.ref (u 1), .ref (u 2), .ref (u 3)]) ++ bR g 4 (u 1) 14 (fun _ => none) ++ bI g (u 2) 6 (fun _ => 0) ++ bI g (u 3) 96 (fun _ => 0) ++ bO (u 10) 4 ([.ref (u 0), .ref (u 11), .ref (u 12), .ref (u 13), .ref (u 14), .ref (u 15), .ref (u 16), .ref (u 17), .int 0, .int 0, .int 0, .int 0, .int 0, .int 0, .int 1]) ++ bI g (u 11) 10 (fun _ => 0) ++ bI g (u 12) 10 (fun _ => 0) ++ bI g (u 13) 10 (fun _ => 0) ++ bI g (u 14) 10 (fun _ => 0) ++ bI g (u 15) 10 (fun _ => 0) ++ bI g (u 16) 3 frF ++ bI g (u 17) 3 (upd (upd (upd (fun _ => 0) 0 (-1000000005)) 1 (-1000000005)) 2 (-1000000005)) ++ bO (u 20) 4 ([.ref (u 0), .ref (u 21), .ref (u 22), .ref (u 23), .ref (u 24), .ref (u 25), .ref (u 26), .ref (u 27), .int 0, .int 0, .int 0, .int 0, .int 0, .int 0, .int 1]) ++ bI g (u 21) 10 (fun _ => 0) ++ bI g (u 22) 10 (fun _ => 0) ++ bI g (u 23) 10 (fun _ => 0) ++ bI g (u 24) 10 (fun _ => 0) ++ bI g (u 25) 10 (fun _ => 0) ++ bI g (u 26) 3 frF ++ bI g (u 27) 3 (upd (upd (upd (fun _ => 0) 0 (-1000000005)) 1 (-1000000005)) 2 (-1000000005)) ++ bO (u 30) 4 ([.ref (u 0), .ref (u 31), .ref (u 32), .ref (u 33), .ref (u 34), .ref (u 35), .ref (u 36), .ref (u 37), .int 0, .int 0, .int 0, .int 0, .int 0, .int 0, .int 1]) ++ bI g (u 31) 10 (fun _ => 0) ++ bI g (u 32) 10 (fun _ => 0) ++ bI g (u 33) 10 (fun _ => 0) ++ bI g (u 34) 10 (fun _ => 0) ++ bI g (u 35) 10 (fun _ => 0) ++ bI g (u 36) 3 frF ++ bI g (u 37) 3 (upd (upd (upd (fun _ => 0) 0 (-1000000005)) 1 (-1000000005)) 2 (-1000000005)) ++ bO (u 45) 1 ([.ref (u 53), .ref (u 54), .int 0, .int 0, .int 0, .int 0, .int 0, .int 0]) ++ bI g (u 53) 96 (fun _ => 0) ++ bI g (u 54) 96 (fun _ => 0) ++ bI g (u 46) 96 (fun _ => 0) ++ bR g 2 (u 48) 4 (va_up (va_up (va_up (va_up (fun _ => none) 0 (some (u 60))) 1 (some (u 61))) 2 (some (u 62))) 3 (some (u 63))) ++ bR g 3 (u 49) 5 (va_up (va_up (va_up (va_up (va_up (fun _ => none) 0 (some (u 80))) 1 (some (u 81))) 2 (some (u 82))) 3 (some (u 83))) 4 (some (u 84))) ++ bI g (u 50) 60 (fun _ => 0) ++ bI g (u 52) 10 (fun _ => 0) ++ bO (u 60) 2 ([.ref (u 70), .int (-1), .int 0]) ++ bI g (u 70) 24 (fun _ => 0) ++ bO (u 61) 2 ([.ref (u 71), .int (-1), .int 0]) ++ bI g (u 71) 24 (fun _ => 0) ++ bO (u 62) 2 ([.ref (u 72), .int (-1), .int 0]) ++ bI g (u 72) 24 (fun _ => 0) ++ bO (u 63) 2 ([.ref (u 73), .int (-1), .int 0]) ++ bI g (u 73) 24 (fun _ => 0) ++ bO (u 80) 3 ([.int 0, .int 0, .int 0, .int 0, .int 0, .int 0, .ref (u 90)]) ++ bO (u 90) 2 ([.ref (u 100), .int (-1), .int 0]) ++ bI g (u 100) 24 (fun _ => 0) ++ bO (u 81) 3 ([.int 0, .int 0, .int 0, .int 0, .int 0, .int 0, .ref (u 91)]) ++ bO (u 91) 2 ([.ref (u 101), .int (-1), .int 0]) ++ bI g (u 101) 24 (fun _ => 0) ++ bO (u 82) 3 ([.int 0, .int 0, .int 0, .int 0, .int 0, .int 0, .ref (u 92)]) ++ bO (u 92) 2 ([.ref (u 102), .int (-1), .int 0]) ++ bI g (u 102) 24 (fun _ => 0) ++ bO (u 83) 3 ([.int 0, .int 0, .int 0, .int 0, .int 0, .int 0, .ref (u 93)]) ++ bO (u 93) 2 ([.ref (u 103), .int (-1), .int 0]) ++ bI g (u 103) 24 (fun _ => 0) ++ bO (u 84) 3 ([.int 0, .int 0, .int 0, .int 0, .int 0, .int 0, .ref (u 94)]) ++ bO (u 94) 2 ([.ref (u 104), .int (-1), .int 0]) ++ bI g (u 104) 24 (fun _ => 0)] → W p l e room_1 s m #[Value.ref b] below meth c H locs 61 1013 (lw_Z below #[Value.ref b] s) (F0 m 7 ls [.ref o])) : W p l e room_1 s m #[Value.ref b] below meth c H locs 1 13 (lw_Z below #[Value.ref b] s) (F0 m 3 ls [.ref o]) := by
  unfold n6 at hw
  refine lv_dup hx hb dL_law_3 rfl ?_
  refine s_callv (runI cf (i_class (a_ := o)) hw [0] (by decide) rfl km_X6_init rfl ki_X6_init q98 rfl rfl hl.1 rfl dL_law_4) hw [0] (by decide) rfl (fun _ => len1) (fun u H locs hp hw => ?_)
  exact kk u H locs (wd_b0 hw)
set_option maxHeartbeats 1000000 in
set_option maxRecDepth 100000 in
theorem ws_1 {p : Program} {l : Launch} {e : Env} {s : State} {m : MethodId} {below : List Frame} {meth : Method} {c : Code} {b : Nat} {g : GG} {A : Nat → Prop} {H : Heap} {locs : List Loc} {ls : Array Slot} (cf : CallFix p m c cL_law 4 s #[Value.ref b] gw "CoalHolesLaw") (hw : WD g A s H locs [])
    (kk : ∀ (o : Nat) (H : Heap), WD g A s H locs [bO o 6 n6] → W p l e room_1 s m #[Value.ref b] below meth c H locs 1 13 (lw_Z below #[Value.ref b] s) (F0 m 3 ls [.ref o])) : W p l e room_1 s m #[Value.ref b] below meth c H locs 0 0 (lw_Z below #[Value.ref b] s) (F0 m 0 ls []) := by
  refine s_new (fs := n6) fb6 cf hw q96 q97 q79 st_d6 (Nat.le_of_ble_eq_true rfl) (Nat.le_of_ble_eq_true rfl) dL_law_0 (fun a H hw => ?_)
  exact kk a H hw
set_option maxHeartbeats 1000000 in
set_option maxRecDepth 100000 in
theorem whole_start {p : Program} {e : Env} {s : State} {m : MethodId} {below : List Frame} {meth : Method} {c : Code} (l : Launch) (hflags : l.flags = flags0) {b L : Nat} {xs : Nat → Int32} (hL : L ≤ 3072) (C0 : lw_At p s m meth c b L xs) : W p l e room_1 s m #[Value.ref b] below meth c s.heap [] 0 0 (lw_Z below #[Value.ref b] s) (entryFrame m ([Value.ref b] : List Value).toArray 4) := by
  obtain ⟨hx, hb0, hr, hml, hown, hts, hX, hbl, hlocks, hgv⟩ := id C0
  have hb : c.code = cL_law := hb0
  obtain ⟨g, hK, hG⟩ := st_G (A := fun q => s.heap.size ≤ q) (fun a h => Nat.not_le.mpr h) hts hgv
  have cf : CallFix p m c cL_law 4 s #[Value.ref b] gw "CoalHolesLaw" := ⟨hx, hb, hml, hown, fun w hw => hts w (List.mem_filter.mp hw).1⟩
  have hA : ∀ q : Nat, (fun q => s.heap.size ≤ q) q → s.heap.size ≤ q := fun q h => h
  have hw : WD g (fun q => s.heap.size ≤ q) s s.heap [] [] := ⟨hK, fun k q h => by simp at h, ⟨fun i j p q h => by simp at h, fun k q h => by simp at h⟩, va_S.rf, fun q h => h, hG⟩
  generalize (fun q : Nat => s.heap.size ≤ q) = A at hw hA
  have hl := lv_entry ([.ref b]) (n := 4) (Nat.le_of_ble_eq_true rfl)
  rw [lg_entry_eq]
  generalize (lg_sl ([.ref b]) ++ List.replicate (4 - (lg_sl ([.ref b])).length) Slot.unset).toArray = ls at hl ⊢
  have hl : lv_has ls 4 [(0, .ref b)] := hl
  refine ws_1 cf hw (fun o H hw => ?_)
  refine ws_2 hx hb cf hl hw (fun u H locs hw => ?_)
  refine lv_astore_n (lv' := [(1, .ref o), (0, .ref b)]) hx hb dL_law_7 rfl hl (by decide) rfl (fun ls hl => ?_)
  refine ws_3 cf hw (fun a H hw => ?_)
  refine ws_4 hx hb cf hl hw (fun v H locs hw => ?_)
  exact ws_5 hA hL C0 hl hw
