theorem li_elim {g : GG} {A : Nat → Prop} {s : State} {o t t3 t2 a : Nat} {lad ad ad3 ad2 ch rd sa pa la ra qa ma : Nat → Nat} {H : Heap} {locs : List Loc} {R : Prop} (h : LI g A s o t t3 t2 a lad ad ad3 ad2 ch rd sa pa la ra qa ma H locs) (k : ∀ (d cn d3 cn3 d2 cn2 nm st_ cz sy tf ws df so sz hs kd_ st_l co he nn rs rl kd as_ ov cdf kf sf wf plm czm nu isn ap ca ar si sk ss sn sb : DD) (pl rp : Nat → DD) (tr : Nat → Option Nat) (txb : va_W) (kp w_ o_ b_ n_ p_ k_ at0 bg0 tk0 cd0 wo0 ky0 op0 nt0 wr0 bw0 : Int32) (va0 : Int64) (tp wn nt nti : Nat), WD g A s H locs ((bO t 4 (tF (lad 0) ad (d 0) (d 9) (d 5) (d 6) (d 7) (d 1) (d 8))) :: (bI g (ad 1) 10 (col d 0)) :: (bI g (ad 2) 10 (col d 1)) :: (bI g (ad 3) 10 (col d 2)) :: (bI g (ad 4) 10 (col d 3)) :: (bI g (ad 5) 10 (col d 4)) :: (bI g (ad 6) 3 (rulF d)) :: (bI g (ad 7) 3 cn) :: (bO t3 4 (tF (lad 0) ad3 (d3 0) (d3 9) (d3 5) (d3 6) (d3 7) (d3 1) (d3 8))) :: (bI g (ad3 1) 10 (col d3 0)) :: (bI g (ad3 2) 10 (col d3 1)) :: (bI g (ad3 3) 10 (col d3 2)) :: (bI g (ad3 4) 10 (col d3 3)) :: (bI g (ad3 5) 10 (col d3 4)) :: (bI g (ad3 6) 3 (rulF d3)) :: (bI g (ad3 7) 3 cn3) :: (bO t2 4 (tF (lad 0) ad2 (d2 0) (d2 9) (d2 5) (d2 6) (d2 7) (d2 1) (d2 8))) :: (bI g (ad2 1) 10 (col d2 0)) :: (bI g (ad2 2) 10 (col d2 1)) :: (bI g (ad2 3) 10 (col d2 2)) :: (bI g (ad2 4) 10 (col d2 3)) :: (bI g (ad2 5) 10 (col d2 4)) :: (bI g (ad2 6) 3 (rulF d2)) :: (bI g (ad2 7) 3 cn2) :: (bO (lad 0) 0 ([.ref (lad 1), .ref (lad 2), .ref (lad 3)])) :: (bR g 4 (lad 1) 14 tr) :: (bI g (lad 2) 6 nm) :: (bI g (lad 3) 96 st_) :: txb :: (bO o 6 (cF (lad 0) t t3 t2 ch kp (nI tp) (nI wn))) :: (bO (ch 5) 1 (rF rd w_ o_ b_ n_ p_ k_)) :: (bI g (rd 1) 96 cz) :: (bI g (rd 2) 96 sy) :: (bI g (ch 6) 96 tf) :: (bR g 2 (ch 8) 4 (fun k => some (sa k))) :: (bR g 3 (ch 9) 5 (fun k => some (la k))) :: (bI g (ch 10) 60 ws) :: (bI g (ch 12) 10 df) :: (shB g sa pa so sz pl) :: (slB g la ra qa hs kd_ st_l co he nn rs rl rp) :: [bO a 7 (mF ma kp (nI tp) at0 bg0 tk0 va0 cd0 wo0 ky0 op0 nt0 wr0 bw0 (nI wn)), bI g (ma 0) 60 d, bI g (ma 1) 60 kd, bI g (ma 2) 60 as_, bI g (ma 3) 60 ov, bI g (ma 5) 1344 cdf, bI g (ma 6) 14 kf, bI g (ma 7) 14 sf, bI g (ma 8) 14 wf, bI g (ma 9) 96 plm, bI g (ma 10) 96 tf, bI g (ma 23) 96 czm, bI g (ma 24) 4 so, bI g (ma 25) 4 sz, bI g (ma 26) 96 nu, bZ g (ma 27) 96 isn, bI g (ma 28) 10 ap, bI g (ma 29) 24 ca, bZ g (ma 30) 24 ar, bI g (ma 31) 5 hs, bI g (ma 32) 5 si, bI g (ma 33) 5 sk, bI g (ma 34) 5 ss, bI g (ma 35) 120 sn, bZ g (ma 36) 120 sb, bI g (ma 37) 60 ws]) → DOK d → DOK d3 → DOK kd → (¬ kp = 0 → kd = d3) → d 9 = nI nt → nt ≤ 14 → kd 9 = nI nti → nti ≤ nt → TXI g tr txb kf sf wf cdf nt → CNI cn kf nt → CNI cn3 kf nti → tp ≤ 96 → (∀ j, 0 ≤ tf j ∧ tf j ≤ 255) → wn ≤ 60 → ShOK so sz pl nu isn → B01 isn → SlOK kd_ st_l co he nn rl rp hs si sk ss sn sb → R) : R :=
  Exists.elim h fun d h => Exists.elim h fun cn h => Exists.elim h fun d3 h => Exists.elim h fun cn3 h => Exists.elim h fun d2 h => Exists.elim h fun cn2 h => Exists.elim h fun nm h => Exists.elim h fun st_ h => Exists.elim h fun cz h => Exists.elim h fun sy h => Exists.elim h fun tf h => Exists.elim h fun ws h => Exists.elim h fun df h => Exists.elim h fun so h => Exists.elim h fun sz h => Exists.elim h fun hs h => Exists.elim h fun kd_ h => Exists.elim h fun st_l h => Exists.elim h fun co h => Exists.elim h fun he h => Exists.elim h fun nn h => Exists.elim h fun rs h => Exists.elim h fun rl h => Exists.elim h fun kd h => Exists.elim h fun as_ h => Exists.elim h fun ov h => Exists.elim h fun cdf h => Exists.elim h fun kf h => Exists.elim h fun sf h => Exists.elim h fun wf h => Exists.elim h fun plm h => Exists.elim h fun czm h => Exists.elim h fun nu h => Exists.elim h fun isn h => Exists.elim h fun ap h => Exists.elim h fun ca h => Exists.elim h fun ar h => Exists.elim h fun si h => Exists.elim h fun sk h => Exists.elim h fun ss h => Exists.elim h fun sn h => Exists.elim h fun sb h => Exists.elim h fun pl h => Exists.elim h fun rp h => Exists.elim h fun tr h => Exists.elim h fun txb h => Exists.elim h fun kp h => Exists.elim h fun w_ h => Exists.elim h fun o_ h => Exists.elim h fun b_ h => Exists.elim h fun n_ h => Exists.elim h fun p_ h => Exists.elim h fun k_ h => Exists.elim h fun at0 h => Exists.elim h fun bg0 h => Exists.elim h fun tk0 h => Exists.elim h fun cd0 h => Exists.elim h fun wo0 h => Exists.elim h fun ky0 h => Exists.elim h fun op0 h => Exists.elim h fun nt0 h => Exists.elim h fun wr0 h => Exists.elim h fun bw0 h => Exists.elim h fun va0 h => Exists.elim h fun tp h => Exists.elim h fun wn h => Exists.elim h fun nt h => Exists.elim h fun nti h => k d cn d3 cn3 d2 cn2 nm st_ cz sy tf ws df so sz hs kd_ st_l co he nn rs rl kd as_ ov cdf kf sf wf plm czm nu isn ap ca ar si sk ss sn sb pl rp tr txb kp w_ o_ b_ n_ p_ k_ at0 bg0 tk0 cd0 wo0 ky0 op0 nt0 wr0 bw0 va0 tp wn nt nti h.1 (h.2.1) (h.2.2.1) (h.2.2.2.1) (h.2.2.2.2.1) (h.2.2.2.2.2.1) (h.2.2.2.2.2.2.1) (h.2.2.2.2.2.2.2.1) (h.2.2.2.2.2.2.2.2.1) (h.2.2.2.2.2.2.2.2.2.1) (h.2.2.2.2.2.2.2.2.2.2.1) (h.2.2.2.2.2.2.2.2.2.2.2.1) (h.2.2.2.2.2.2.2.2.2.2.2.2.1) (h.2.2.2.2.2.2.2.2.2.2.2.2.2.1) (h.2.2.2.2.2.2.2.2.2.2.2.2.2.2.1) (h.2.2.2.2.2.2.2.2.2.2.2.2.2.2.2.1) (h.2.2.2.2.2.2.2.2.2.2.2.2.2.2.2.2.1) (h.2.2.2.2.2.2.2.2.2.2.2.2.2.2.2.2.2)
theorem law_in {i L : Nat} (hi : i ≤ 4000) (hL : L ≤ 3072) (h : ¬ Int32.ofNat L - 6 < nI i) : i + 6 ≤ L := by
  have h : ¬ nI L - nI 6 < nI i := h
  rcases Nat.lt_or_ge L 6 with z | z
  · exfalso
    have h1 := pk_sneg (a := L) (b := 6) (by omega) (by omega)
    have h2 := nI_pos' (n := i) (by omega)
    apply h
    grind
  · rw [pk_sub z, nI_ltI (by omega) (by omega)] at h
    omega
theorem law_inc (it : Nat) : nI (6 * it) + 6 = nI (6 * (it + 1)) := by
  rw [Nat.mul_add]
  exact nI_add (6 * it) 6
theorem li_S {g : GG} {A : Nat → Prop} {s : State} {o t t3 t2 a : Nat} {lad ad ad3 ad2 ch rd sa pa la ra qa ma : Nat → Nat} {H : Heap} {locs : List Loc} (h : LI g A s o t t3 t2 a lad ad ad3 ad2 ch rd sa pa la ra qa ma H locs) : va_S A s.heap H locs :=
  li_elim h (fun _ _ _ _ _ _ _ _ _ _ _ _ _ _ _ _ _ _ _ _ _ _ _ _ _ _ _ _ _ _ _ _ _ _ _ _ _ _ _ _ _ _ _ _ _ _ _ _ _ _ _ _ _ _ _ _ _ _ _ _ _ _ _ _ _ _ _ _ hw _ _ _ _ _ _ _ _ _ _ _ _ _ _ _ _ _ => hw.2.2.2.1)
set_option maxRecDepth 100000 in
set_option maxHeartbeats 4000000 in
theorem law_sw {p : Program} {l : Launch} {e : Env} {m : MethodId} {below : List Frame} {meth : Method} {c : Code} {b L : Nat} {xs : Nat → Int32} {Qf : State → Prop} {i cells slots : Nat} {H : Heap} {locs : List Loc} {ls : Array Slot} {v : Int32} {g : GG} {A : Nat → Prop} {s : State} {o t t3 t2 a : Nat} {lad ad ad3 ad2 ch rd sa pa la ra qa ma : Nat → Nat} (C0 : lw_At p s m meth c b L xs) (hbA : ¬ A b) (hi : i + 6 ≤ L) (hL : L ≤ 3072) (hcs : cells ≤ 1500) (hsl : slots ≤ 90000) (hl : lv_has ls 4 [(3, .int (nI i)), (2, .ref a), (1, .ref o), (0, .ref b)]) (li : LI g A s o t t3 t2 a lad ad ad3 ad2 ch rd sa pa la ra qa ma H locs)
    (K : ∀ (H1 : Heap) (locs1 : List Loc), LI g A s o t t3 t2 a lad ad ad3 ad2 ch rd sa pa la ra qa ma H1 locs1 → W p l e room_1 s m #[Value.ref b] below meth c H1 locs1 (cells + 2) (slots + 99) Qf (F0 m 1425 ls [])) : W p l e room_1 s m #[Value.ref b] below meth c H locs cells slots Qf (F0 m 33 ls [.int v]) := by
  have hx := C0.1
  have hb : c.code = cL_law := C0.2.1
  by_cases hr : 0 ≤ v ∧ v ≤ 40
  · obtain ⟨j, hj, rfl⟩ := rng_nat (m := 40) (by omega) hr.1 hr.2
    clear hr
    refine li_elim li ?_
    intro d cn d3 cn3 d2 cn2 nm st_ cz sy tf ws df so sz hs kd_ st_l co he nn rs rl kd as_ ov cdf kf sf wf plm czm nu isn ap ca ar si sk ss sn sb pl rp tr txb kp w_ o_ b_ n_ p_ k_ at0 bg0 tk0 cd0 wo0 ky0 op0 nt0 wr0 bw0 va0 tp wn nt nti hw i1 i2 i3 i4 i5 i6 i7 i8 i9 i10 i11 i12 i13 i14 i15 i16 i17
    clear li
    match j, hj with
    | 0, _ => exact lv_tableIn (off := 179) (tgt := 212) hx hb dL_law_33 (by decide) (by decide) rfl (by decide) (op_house C0 hbA hi hL hcs hsl hl hw i1 i2 i3 i4 i5 i6 i7 i8 i9 i10 i11 i12 i13 i14 i15 i16 i17 K)
    | 1, _ => exact lv_tableIn (off := 232) (tgt := 265) hx hb dL_law_33 (by decide) (by decide) rfl (by decide) (op_told C0 hbA hi hL hcs hsl hl hw i1 i2 i3 i4 i5 i6 i7 i8 i9 i10 i11 i12 i13 i14 i15 i16 i17 K)
    | 2, _ => exact lv_tableIn (off := 265) (tgt := 298) hx hb dL_law_33 (by decide) (by decide) rfl (by decide) (op_as C0 hbA hi hL hcs hsl hl hw i1 i2 i3 i4 i5 i6 i7 i8 i9 i10 i11 i12 i13 i14 i15 i16 i17 K)
    | 3, _ => exact lv_tableIn (off := 298) (tgt := 331) hx hb dL_law_33 (by decide) (by decide) rfl (by decide) (op_turns C0 hbA hi hL hcs hsl hl hw i1 i2 i3 i4 i5 i6 i7 i8 i9 i10 i11 i12 i13 i14 i15 i16 i17 K)
    | 4, _ => exact lv_tableIn (off := 331) (tgt := 364) hx hb dL_law_33 (by decide) (by decide) rfl (by decide) (op_set C0 hbA hi hL hcs hsl hl hw i1 i2 i3 i4 i5 i6 i7 i8 i9 i10 i11 i12 i13 i14 i15 i16 i17 K)
    | 5, _ => exact lv_tableIn (off := 374) (tgt := 407) hx hb dL_law_33 (by decide) (by decide) rfl (by decide) (op_rule C0 hbA hi hL hcs hsl hl hw i1 i2 i3 i4 i5 i6 i7 i8 i9 i10 i11 i12 i13 i14 i15 i16 i17 K)
    | 6, _ => exact lv_tableIn (off := 407) (tgt := 440) hx hb dL_law_33 (by decide) (by decide) rfl (by decide) (op_deal C0 hbA hi hL hcs hsl hl hw i1 i2 i3 i4 i5 i6 i7 i8 i9 i10 i11 i12 i13 i14 i15 i16 i17 K)
    | 7, _ => exact lv_tableIn (off := 430) (tgt := 463) hx hb dL_law_33 (by decide) (by decide) rfl (by decide) (op_seed C0 hbA hi hL hcs hsl hl hw i1 i2 i3 i4 i5 i6 i7 i8 i9 i10 i11 i12 i13 i14 i15 i16 i17 K)
    | 8, _ => exact lv_tableIn (off := 453) (tgt := 486) hx hb dL_law_33 (by decide) (by decide) rfl (by decide) (op_round C0 hbA hi hL hcs hsl hl hw i1 i2 i3 i4 i5 i6 i7 i8 i9 i10 i11 i12 i13 i14 i15 i16 i17 K)
    | 9, _ => exact lv_tableIn (off := 466) (tgt := 499) hx hb dL_law_33 (by decide) (by decide) rfl (by decide) (op_load C0 hbA hi hL hcs hsl hl hw i1 i2 i3 i4 i5 i6 i7 i8 i9 i10 i11 i12 i13 i14 i15 i16 i17 K)
    | 10, _ => exact lv_tableIn (off := 489) (tgt := 522) hx hb dL_law_33 (by decide) (by decide) rfl (by decide) (op_nights C0 hbA hi hL hcs hsl hl hw i1 i2 i3 i4 i5 i6 i7 i8 i9 i10 i11 i12 i13 i14 i15 i16 i17 K)
    | 11, _ => exact lv_tableIn (off := 512) (tgt := 545) hx hb dL_law_33 (by decide) (by decide) rfl (by decide) (op_terrace C0 hbA hi hL hcs hsl hl hw i1 i2 i3 i4 i5 i6 i7 i8 i9 i10 i11 i12 i13 i14 i15 i16 i17 K)
    | 12, _ => exact lv_tableIn (off := 535) (tgt := 568) hx hb dL_law_33 (by decide) (by decide) rfl (by decide) (op_behind C0 hbA hi hL hcs hsl hl hw i1 i2 i3 i4 i5 i6 i7 i8 i9 i10 i11 i12 i13 i14 i15 i16 i17 K)
    | 13, _ => exact lv_tableIn (off := 568) (tgt := 601) hx hb dL_law_33 (by decide) (by decide) rfl (by decide) (op_cold C0 hbA hi hL hcs hsl hl hw i1 i2 i3 i4 i5 i6 i7 i8 i9 i10 i11 i12 i13 i14 i15 i16 i17 K)
    | 14, _ => exact lv_tableIn (off := 591) (tgt := 624) hx hb dL_law_33 (by decide) (by decide) rfl (by decide) (op_shut C0 hbA hi hL hcs hsl hl hw i1 i2 i3 i4 i5 i6 i7 i8 i9 i10 i11 i12 i13 i14 i15 i16 i17 K)
    | 15, _ => exact lv_tableIn (off := 614) (tgt := 647) hx hb dL_law_33 (by decide) (by decide) rfl (by decide) (op_cement C0 hbA hi hL hcs hsl hl hw i1 i2 i3 i4 i5 i6 i7 i8 i9 i10 i11 i12 i13 i14 i15 i16 i17 K)
    | 16, _ => exact lv_tableIn (off := 637) (tgt := 670) hx hb dL_law_33 (by decide) (by decide) rfl (by decide) (op_cast C0 hbA hi hL hcs hsl hl hw i1 i2 i3 i4 i5 i6 i7 i8 i9 i10 i11 i12 i13 i14 i15 i16 i17 K)
    | 17, _ => exact lv_tableIn (off := 680) (tgt := 713) hx hb dL_law_33 (by decide) (by decide) rfl (by decide) (op_becomes C0 hbA hi hL hcs hsl hl hw i1 i2 i3 i4 i5 i6 i7 i8 i9 i10 i11 i12 i13 i14 i15 i16 i17 K)
    | 18, _ => exact lv_tableIn (off := 723) (tgt := 756) hx hb dL_law_33 (by decide) (by decide) rfl (by decide) (op_ears C0 hbA hi hL hcs hsl hl hw i1 i2 i3 i4 i5 i6 i7 i8 i9 i10 i11 i12 i13 i14 i15 i16 i17 K)
    | 19, _ => exact lv_tableIn (off := 756) (tgt := 789) hx hb dL_law_33 (by decide) (by decide) rfl (by decide) (op_like C0 hbA hi hL hcs hsl hl hw i1 i2 i3 i4 i5 i6 i7 i8 i9 i10 i11 i12 i13 i14 i15 i16 i17 K)
    | 20, _ => exact lv_tableIn (off := 789) (tgt := 822) hx hb dL_law_33 (by decide) (by decide) rfl (by decide) (op_fee C0 hbA hi hL hcs hsl hl hw i1 i2 i3 i4 i5 i6 i7 i8 i9 i10 i11 i12 i13 i14 i15 i16 i17 K)
    | 21, _ => exact lv_tableIn (off := 802) (tgt := 835) hx hb dL_law_33 (by decide) (by decide) rfl (by decide) (op_fine C0 hbA hi hL hcs hsl hl hw i1 i2 i3 i4 i5 i6 i7 i8 i9 i10 i11 i12 i13 i14 i15 i16 i17 K)
    | 22, _ => exact lv_tableIn (off := 825) (tgt := 858) hx hb dL_law_33 (by decide) (by decide) rfl (by decide) (op_feed C0 hbA hi hL hcs hsl hl hw i1 i2 i3 i4 i5 i6 i7 i8 i9 i10 i11 i12 i13 i14 i15 i16 i17 K)
    | 23, _ => exact lv_tableIn (off := 868) (tgt := 901) hx hb dL_law_33 (by decide) (by decide) rfl (by decide) (op_trim C0 hbA hi hL hcs hsl hl hw i1 i2 i3 i4 i5 i6 i7 i8 i9 i10 i11 i12 i13 i14 i15 i16 i17 K)
    | 24, _ => exact lv_tableIn (off := 891) (tgt := 924) hx hb dL_law_33 (by decide) (by decide) rfl (by decide) (op_text C0 hbA hi hL hcs hsl hl hw i1 i2 i3 i4 i5 i6 i7 i8 i9 i10 i11 i12 i13 i14 i15 i16 i17 K)
    | 25, _ => exact lv_tableIn (off := 904) (tgt := 937) hx hb dL_law_33 (by decide) (by decide) rfl (by decide) (op_textTold C0 hbA hi hL hcs hsl hl hw i1 i2 i3 i4 i5 i6 i7 i8 i9 i10 i11 i12 i13 i14 i15 i16 i17 K)
    | 26, _ => exact lv_tableIn (off := 937) (tgt := 970) hx hb dL_law_33 (by decide) (by decide) rfl (by decide) (op_why C0 hbA hi hL hcs hsl hl hw i1 i2 i3 i4 i5 i6 i7 i8 i9 i10 i11 i12 i13 i14 i15 i16 i17 K)
    | 27, _ => exact lv_tableIn (off := 960) (tgt := 993) hx hb dL_law_33 (by decide) (by decide) rfl (by decide) (op_sheet C0 hbA hi hL hcs hsl hl hw i1 i2 i3 i4 i5 i6 i7 i8 i9 i10 i11 i12 i13 i14 i15 i16 i17 K)
    | 28, _ => exact lv_tableIn (off := 1003) (tgt := 1036) hx hb dL_law_33 (by decide) (by decide) rfl (by decide) (op_mark C0 hbA hi hL hcs hsl hl hw i1 i2 i3 i4 i5 i6 i7 i8 i9 i10 i11 i12 i13 i14 i15 i16 i17 K)
    | 29, _ => exact lv_tableIn (off := 1046) (tgt := 1079) hx hb dL_law_33 (by decide) (by decide) rfl (by decide) (op_pour C0 hbA hi hL hcs hsl hl hw i1 i2 i3 i4 i5 i6 i7 i8 i9 i10 i11 i12 i13 i14 i15 i16 i17 K)
    | 30, _ => exact lv_tableIn (off := 1069) (tgt := 1102) hx hb dL_law_33 (by decide) (by decide) rfl (by decide) (op_reads C0 hbA hi hL hcs hsl hl hw i1 i2 i3 i4 i5 i6 i7 i8 i9 i10 i11 i12 i13 i14 i15 i16 i17 K)
    | 31, _ => exact lv_tableIn (off := 1092) (tgt := 1125) hx hb dL_law_33 (by decide) (by decide) rfl (by decide) (op_copy C0 hbA hi hL hcs hsl hl hw i1 i2 i3 i4 i5 i6 i7 i8 i9 i10 i11 i12 i13 i14 i15 i16 i17 K)
    | 32, _ => exact lv_tableIn (off := 1155) (tgt := 1188) hx hb dL_law_33 (by decide) (by decide) rfl (by decide) (op_lay C0 hbA hi hL hcs hsl hl hw i1 i2 i3 i4 i5 i6 i7 i8 i9 i10 i11 i12 i13 i14 i15 i16 i17 K)
    | 33, _ => exact lv_tableIn (off := 1198) (tgt := 1231) hx hb dL_law_33 (by decide) (by decide) rfl (by decide) (op_ask C0 hbA hi hL hcs hsl hl hw i1 i2 i3 i4 i5 i6 i7 i8 i9 i10 i11 i12 i13 i14 i15 i16 i17 K)
    | 34, _ => exact lv_tableIn (off := 1231) (tgt := 1264) hx hb dL_law_33 (by decide) (by decide) rfl (by decide) (op_item C0 hbA hi hL hcs hsl hl hw i1 i2 i3 i4 i5 i6 i7 i8 i9 i10 i11 i12 i13 i14 i15 i16 i17 K)
    | 35, _ => exact lv_tableIn (off := 1264) (tgt := 1297) hx hb dL_law_33 (by decide) (by decide) rfl (by decide) (op_rest C0 hbA hi hL hcs hsl hl hw i1 i2 i3 i4 i5 i6 i7 i8 i9 i10 i11 i12 i13 i14 i15 i16 i17 K)
    | 36, _ => exact lv_tableIn (off := 1297) (tgt := 1330) hx hb dL_law_33 (by decide) (by decide) rfl (by decide) (op_tell C0 hbA hi hL hcs hsl hl hw i1 i2 i3 i4 i5 i6 i7 i8 i9 i10 i11 i12 i13 i14 i15 i16 i17 K)
    | 37, _ => exact lv_tableIn (off := 1320) (tgt := 1353) hx hb dL_law_33 (by decide) (by decide) rfl (by decide) (op_check C0 hbA hi hL hcs hsl hl hw i1 i2 i3 i4 i5 i6 i7 i8 i9 i10 i11 i12 i13 i14 i15 i16 i17 K)
    | 38, _ => exact lv_tableIn (off := 1343) (tgt := 1376) hx hb dL_law_33 (by decide) (by decide) rfl (by decide) (op_keep C0 hbA hi hL hcs hsl hl hw i1 i2 i3 i4 i5 i6 i7 i8 i9 i10 i11 i12 i13 i14 i15 i16 i17 K)
    | 39, _ => exact lv_tableIn (off := 1356) (tgt := 1389) hx hb dL_law_33 (by decide) (by decide) rfl (by decide) (op_back C0 hbA hi hL hcs hsl hl hw i1 i2 i3 i4 i5 i6 i7 i8 i9 i10 i11 i12 i13 i14 i15 i16 i17 K)
    | 40, _ => exact lv_tableIn (off := 1369) (tgt := 1402) hx hb dL_law_33 (by decide) (by decide) rfl (by decide) (op_count C0 hbA hi hL hcs hsl hl hw i1 i2 i3 i4 i5 i6 i7 i8 i9 i10 i11 i12 i13 i14 i15 i16 i17 K)
    | j + 41, hj => exact absurd hj (by omega)
  · refine lv_tableOut (tgt := 1425) hx hb dL_law_33 ?_ (by decide) ?_
    · rw [Int32.le_iff_toInt_le, Int32.le_iff_toInt_le] at hr
      have h0 : (0 : Int32).toInt = 0 := by decide
      have h40 : (40 : Int32).toInt = 40 := by decide
      omega
    · exact W.widen (k := cells + 2) (n := slots + 99) (by omega) (by omega) (K H locs li)
set_option maxRecDepth 100000 in
set_option maxHeartbeats 4000000 in
theorem law_loop {p : Program} {l : Launch} {e : Env} {m : MethodId} {below : List Frame} {meth : Method} {c : Code} {b L : Nat} {xs : Nat → Int32} {g : GG} {A : Nat → Prop} {s : State} {o t t3 t2 a : Nat} {lad ad ad3 ad2 ch rd sa pa la ra qa ma : Nat → Nat} (hA : ∀ q, A q → s.heap.size ≤ q) (hL : L ≤ 3072) (C0 : lw_At p s m meth c b L xs) : ∀ (n it cells slots : Nat), 513 ≤ it + n → cells ≤ 90 + 2 * it → slots ≤ 4000 + 99 * it → ∀ (H : Heap) (locs : List Loc) (ls : Array Slot), lv_has ls 4 [(3, .int (nI (6 * it))), (2, .ref a), (1, .ref o), (0, .ref b)] → it ≤ 512 → LI g A s o t t3 t2 a lad ad ad3 ad2 ch rd sa pa la ra qa ma H locs → W p l e room_1 s m #[Value.ref b] below meth c H locs cells slots (lw_Z below #[Value.ref b] s) (F0 m 18 ls []) := by
  have hbl : b < s.heap.size := C0.2.2.2.2.2.2.2.1
  have hbA : ¬ A b := fun z => by have := hA b z; omega
  have hx := C0.1
  have hb : c.code = cL_law := C0.2.1
  have hr := C0.2.2.1
  have hX := C0.2.2.2.2.2.2.1
  have hlocks := C0.2.2.2.2.2.2.2.2.1
  intro n
  induction n with
  | zero =>
    intro it cells slots h1 h2 h3 H locs ls hl h5
    omega
  | succ n ih =>
    intro it cells slots h1 h2 h3 H locs ls hl h5 li
    have hS : va_S A s.heap H locs := li_S li
    refine lv_iload_n hx hb dL_law_18 rfl (lv_at hl 0 rfl) ?_
    refine lv_aload_n hx hb dL_law_19 rfl (lv_at hl 3 rfl) ?_
    refine va_slen hx hb hX hbl hbA hS dL_law_20 ?_
    refine lv_bipush (v := 6) hx hb dL_law_21 (by decide) ?_
    refine lv_isub hx hb dL_law_23 ?_
    refine lv_icmp_gt (tgt := 1431) hx hb dL_law_24 (by decide) (fun cN => ?_) (fun cN => ?_)
    · refine lv_iconst (v := 1) hx hb dL_law_1431 (by decide) ?_
      refine va_forget (fun q hq => hA _ (hS.2.2 q hq)) ?_
      refine W.widen (k := 600000) (n := 7302250) (by omega) (by omega) ?_
      exact lw_ret hx hb hr hlocks dL_law_1432
    · have hi : 6 * it + 6 ≤ L := law_in (by omega) hL cN
      refine lv_aload_n hx hb dL_law_27 rfl (lv_at hl 3 rfl) ?_
      refine lv_iload_n hx hb dL_law_28 rfl (lv_at hl 0 rfl) ?_
      refine va_sld hx hb hX hbl hbA hS (vp_in_nI (by omega) (by omega)) dL_law_29 ?_
      refine lv_bipush (v := 63) hx hb dL_law_30 (by decide) ?_
      refine lv_iand hx hb dL_law_32 ?_
      refine lv_topi (fun v _ => ?_)
      refine law_sw C0 hbA hi hL (by omega) (by omega) hl li (fun H1 locs1 li1 => ?_)
      refine lv_iinc (v := nI (6 * (it + 1))) (lv' := [(3, .int (nI (6 * (it + 1)))), (2, .ref a), (1, .ref o), (0, .ref b)]) hx hb dL_law_1425 hl (k := 0) rfl (law_inc it) (by decide) rfl (fun ls hl => ?_)
      refine lv_goto (tgt := 18) hx hb dL_law_1428 (by decide) ?_
      exact ih (it + 1) (cells + 2) (slots + 99) (by omega) (by omega) (by omega) H1 locs1 ls hl (by omega) li1
