/-! what the public calls answer, and what d becomes: one function for both sides -/
abbrev isH (d : DD) (x : Int32) : Prop := 0 ≤ x ∧ x ≤ d 0 - 1
theorem isH_nat {d : DD} {n : Nat} {x : Int32} (hn : d 0 = nI n) (hn10 : n ≤ 10) (h : isH d x) : ∃ j, j < n ∧ x = nI j ∧ x.toNatClampNeg = j := by
  obtain ⟨h1, h2⟩ := h
  have h3 : ¬ x < 0 := by grind
  obtain ⟨j, hj, rfl⟩ := nI_of h3
  refine ⟨j, ?_, rfl, nI_clamp hj⟩
  rw [hn] at h2
  rcases n with _ | k
  · exact absurd h2 (by rw [show (nI 0 - 1 : Int32) = -1 from rfl]; intro q; have := nI_pos' hj; grind)
  · rw [nI_pred, nI_leI (by omega) (by omega)] at h2; omega
theorem isH_of {d : DD} {n j : Nat} (hn : d 0 = nI n) (hn10 : n ≤ 10) (h : j < n) : isH d (nI j) := by
  rcases n with _ | k
  · omega
  · exact ⟨nI_pos' (by omega), by rw [hn, nI_pred, nI_leI (by omega) (by omega)]; omega⟩
theorem rng_nat {x : Int32} {m : Nat} (hm : m < 2147483648) (h0 : 0 ≤ x) (h1 : x ≤ nI m) : ∃ j, j ≤ m ∧ x = nI j := by
  obtain ⟨j, hj, rfl⟩ := nI_of (x := x) (by grind)
  rw [nI_leI (by omega) (by omega)] at h1
  exact ⟨j, h1, rfl⟩
abbrev okHouse (k st p c : Int32) : Prop := (0 ≤ k ∧ k ≤ 5) ∧ (0 ≤ st ∧ st ≤ 99) ∧ (0 ≤ p ∧ p ≤ 99) ∧ (0 ≤ c ∧ c ≤ 99)
def buildF (d : DD) (k st p c : Int32) : DD := upd (upd (upd (upd (upd (upd d (10 + 5 * nH d + 0) k) (10 + 5 * nH d + 1) st) (10 + 5 * nH d + 2) p) (10 + 5 * nH d + 3) c) (10 + 5 * nH d + 4) 0) 0 (d 0 + 1)
def R_house (d : DD) (k st p c : Int32) : Int32 := if okHouse k st p c then (if d 0 = 10 then -1000000003 else d 0) else -1000000001
def D_house (d : DD) (k st p c : Int32) : DD := if okHouse k st p c ∧ ¬ d 0 = 10 then buildF d k st p c else d
def toldF (ft : TXC) (d : DD) (j : Nat) (w : Int32) : Int32 := if w = 5 then slackF ft d j else if w = 6 then bendsF d j else if w = 7 then burnsF d j else if w = 8 then worthF (d (10 + 5 * j + 0)) (d (10 + 5 * j + 1)) (d (10 + 5 * j + 3)) (d (10 + 5 * j + 4)) else d (10 + 5 * j + w.toNatClampNeg)
def R_told (ft : TXC) (d : DD) (x w : Int32) : Int32 := if isH d x ∧ (0 ≤ w ∧ w ≤ 8) then toldF ft d x.toNatClampNeg w else -1000000001
def R_as (d : DD) (x k : Int32) : Int32 := if isH d x ∧ (0 ≤ k ∧ k ≤ 5) then (if underF (d (10 + 5 * x.toNatClampNeg + 0)) k then d (10 + 5 * x.toNatClampNeg + 1) else -1000000012) else -1000000001
def R_turns (d : DD) (x k : Int32) : Int32 := if isH d x ∧ (0 ≤ k ∧ k ≤ 5) then d (10 + 5 * x.toNatClampNeg + 0) else -1000000001
def D_turns (d : DD) (x k : Int32) : DD := if isH d x ∧ (0 ≤ k ∧ k ≤ 5) then upd d (10 + 5 * x.toNatClampNeg + 0) k else d
abbrev okSet (d : DD) (x w v : Int32) : Prop := isH d x ∧ (1 ≤ w ∧ w ≤ 4) ∧ (0 ≤ v ∧ v ≤ (if w = 4 then 9999 else 99))
def R_set (d : DD) (x w v : Int32) : Int32 := if okSet d x w v then d (10 + 5 * x.toNatClampNeg + w.toNatClampNeg) else -1000000001
def D_set (d : DD) (x w v : Int32) : DD := if okSet d x w v then upd d (10 + 5 * x.toNatClampNeg + w.toNatClampNeg) v else d
abbrev okRule (w v : Int32) : Prop := (0 ≤ w ∧ w ≤ 2) ∧ (0 ≤ v ∧ v ≤ (if w = 2 then 100 else 99))
def R_rule (d : DD) (w v : Int32) : Int32 := if okRule w v then d (2 + w.toNatClampNeg) else -1000000001
def D_rule (d : DD) (w v : Int32) : DD := if okRule w v then upd d (2 + w.toNatClampNeg) v else d
def lotF (d : DD) : DD := buildF (drawF (drawF (drawF (drawF d)))) (remF (dwF (drawF d 8)) 6) (remF (dwF (drawF (drawF d) 8)) 100) (remF (dwF (drawF (drawF (drawF d)) 8)) 100) (remF (dwF (drawF (drawF (drawF (drawF d))) 8)) 100)
def lotsF (k : Nat) (d : DD) : DD := itn (fun _ e => lotF e) k d
def dealN (d : DD) (n : Int32) : Nat := min n.toNatClampNeg (10 - nH d)
def R_deal (d : DD) (n : Int32) : Int32 := if 1 ≤ n ∧ n ≤ 10 then nI (dealN d n) else -1000000001
def D_deal (d : DD) (n : Int32) : DD := if 1 ≤ n ∧ n ≤ 10 then lotsF (dealN d n) d else d
def R_load (ft : TXC) (d : DD) (x : Int32) : Int32 := if isH d x then deliverF ft d x.toNatClampNeg (10 + 5 * x.toNatClampNeg + 3) - d (10 + 5 * x.toNatClampNeg + 3) else -1000000001
def D_load (ft : TXC) (d : DD) (x : Int32) : DD := if isH d x then deliverF ft d x.toNatClampNeg else d
def nightN (d : DD) (n : Int32) : Nat := (held n 0 (9999 - d 1)).toNatClampNeg
def R_nights (ft : TXC) (d : DD) (n : Int32) : Int32 := if 1 ≤ n ∧ n ≤ 100 then nightsF ft (nightN d n) d 6 - d 6 else -1000000001
def D_nights (ft : TXC) (d : DD) (n : Int32) : DD := if 1 ≤ n ∧ n ≤ 100 then nightsF ft (nightN d n) d else d
def loudestF (d : DD) : Int32 := if nH d = 0 then -1000000005 else nI (loudestB d (nH d))
def R_terr (d : DD) (w : Int32) : Int32 := if w = 0 then d 6 else if w = 1 then d 7 else if w = 2 then coldF d else if w = 3 then d 5 else if w = 4 then sumF 3 d else if w = 5 then sumF 1 d else if w = 6 then loudestF d else -1000000001
def R_behind (ft : TXC) (d : DD) (n w : Int32) : Int32 := if (0 ≤ n ∧ n ≤ 100) ∧ ((0 ≤ w ∧ w ≤ 4) ∨ isH d (w - 5)) then (if w < 5 then R_terr (nightsF ft n.toNatClampNeg d) w else nightsF ft n.toNatClampNeg d (10 + 5 * (w - 5).toNatClampNeg + 4)) else -1000000001
/-- the first of k, k + 1 .. (at most f of them) at which p holds; else the last behind them -/
def lst (p : Nat → Prop) [DecidablePred p] : Nat → Nat → Nat
  | 0, k => k
  | f + 1, k => if p k then k else lst p f (k + 1)
theorem lst_le (p : Nat → Prop) [DecidablePred p] : ∀ f k, lst p f k ≤ k + f
  | 0, k => Nat.le_refl _
  | f + 1, k => by
    unfold lst
    split
    · omega
    · have := lst_le p f (k + 1); omega
def coalAt (ft : TXC) (d : DD) (j k : Nat) : Int32 := nightsF ft k d (10 + 5 * j + 3)
def coldK (ft : TXC) (d : DD) (j : Nat) : Nat := lst (fun k => coalAt ft d j k ≤ 0) 200 0
def R_cold (ft : TXC) (d : DD) (x : Int32) : Int32 := if isH d x then (if coalAt ft d x.toNatClampNeg (coldK ft d x.toNatClampNeg) = 0 then nI (coldK ft d x.toNatClampNeg) else -1000000005) else -1000000001
def slackAt (ft : TXC) (d : DD) (j k : Nat) : Int32 := slackF ft (nightsF ft k d) j
def shutK (ft : TXC) (d : DD) (j : Nat) : Nat := lst (fun k => slackAt ft d j k ≤ 0) 200 0
def R_shut (ft : TXC) (d : DD) (x : Int32) : Int32 := if isH d x then (if slackAt ft d x.toNatClampNeg (shutK ft d x.toNatClampNeg) = 0 then nI (shutK ft d x.toNatClampNeg) else -1000000005) else -1000000001
/-- no house clanks -/
def stillB (ft : TXC) (d : DD) : Bool := (List.range (nH d)).all (fun h => decide (¬ d 2 ≤ slackF ft d h))
theorem stillB_t {ft : TXC} {d : DD} {n : Nat} (hn : nH d = n) (h : ∀ i, i < n → ¬ d 2 ≤ slackF ft d i) : stillB ft d = true := by
  unfold stillB
  rw [hn, List.all_eq_true]
  intro i hi
  exact decide_eq_true (h i (List.mem_range.mp hi))
theorem stillB_f {ft : TXC} {d : DD} {n i : Nat} (hn : nH d = n) (hi : i < n) (h : d 2 ≤ slackF ft d i) : ¬ stillB ft d = true := by
  unfold stillB
  rw [hn, List.all_eq_true]
  intro q
  exact of_decide_eq_true (q i (List.mem_range.mpr hi)) h
/-- the houses of a set have their plates made to fit -/
def fitOne (x : Int32) (h : Nat) (d : DD) : DD := upd d (10 + 5 * h + 2) (if (x >>> (nI h &&& 31) &&& 1) = 1 then d (10 + 5 * h + 1) else d (10 + 5 * h + 2))
def fitSet (x : Int32) (d : DD) : DD := itn (fitOne x) (nH d) d
def isCem (ft : TXC) (d : DD) (n : Nat) (x : Int32) : Bool := stillB ft (nightsF ft n (fitSet x d))
def cemStep (ft : TXC) (d : DD) (n : Nat) (k : Nat) (b : Int32) : Int32 := if (b < 0 ∨ onesF (nI k) < onesF b) ∧ isCem ft d n (nI k) = true then nI k else b
def cemB (ft : TXC) (d : DD) (n m : Nat) : Int32 := itn (cemStep ft d n) m (-1)
def R_cement (ft : TXC) (d : DD) (x : Int32) : Int32 := if 0 ≤ x ∧ x ≤ 20 then (if cemB ft d x.toNatClampNeg (2 ^ nH d) < 0 then -1000000005 else cemB ft d x.toNatClampNeg (2 ^ nH d)) else -1000000001
def castC (ft : TXC) (d : DD) (j n v : Nat) : Int32 := nightsF ft n (upd d (10 + 5 * j + 2) (nI v)) (10 + 5 * j + 3)
def castB (ft : TXC) (d : DD) (j n m : Nat) : Int32 × Int32 := itn (fun v b => (if b.2 < castC ft d j n v then nI v else b.1, if b.2 < castC ft d j n v then castC ft d j n v else b.2)) m (0, -1)
abbrev okCB (d : DD) (x n w : Int32) : Prop := isH d x ∧ (1 ≤ n ∧ n ≤ 60) ∧ (0 ≤ w ∧ w ≤ 1)
def R_cast (ft : TXC) (d : DD) (x n w : Int32) : Int32 := if okCB d x n w then (if w = 0 then (castB ft d x.toNatClampNeg n.toNatClampNeg 100).1 else (castB ft d x.toNatClampNeg n.toNatClampNeg 100).2) else -1000000001
def becC (ft : TXC) (d : DD) (j n k : Nat) : Int32 := nightsF ft n (upd d (10 + 5 * j + 0) (nI k)) 6
def becB (ft : TXC) (d : DD) (j n m : Nat) : Int32 × Int32 := itn (fun v b => (if becC ft d j n v < b.2 then nI v else b.1, if becC ft d j n v < b.2 then becC ft d j n v else b.2)) m (0, 100000)
def R_becomes (ft : TXC) (d : DD) (x n w : Int32) : Int32 := if okCB d x n w then (if w = 0 then (becB ft d x.toNatClampNeg n.toNatClampNeg 6).1 else (becB ft d x.toNatClampNeg n.toNatClampNeg 6).2) else -1000000001
def earC (ft : TXC) (d : DD) (n k : Nat) : Int32 := nightsF ft n (upd d 2 (nI k)) 6
def earB (ft : TXC) (d : DD) (n : Nat) (v : Int32) (m : Nat) : Int32 := itn (fun i b => if earC ft d n (99 - i) ≤ v then nI (99 - i) else b) m (-1000000005)
def R_ears (ft : TXC) (d : DD) (n v : Int32) : Int32 := if (0 ≤ n ∧ n ≤ 60) ∧ (0 ≤ v ∧ v ≤ 99999) then earB ft d n.toNatClampNeg v 100 else -1000000001
def feeF (fe : TXC) (d : DD) : Int32 := match fe with
  | none => d 6
  | some q => evalF (nmF (d 6) (d 7) 0 0) q.1 q.2
def fineF (fi : TXC) (d : DD) (j : Nat) : Int32 := match fi with
  | none => d (10 + 5 * j + 3)
  | some q => evalF (nmF (d (10 + 5 * j + 1)) (d (10 + 5 * j + 3)) 0 0) q.1 q.2
def R_fine (fi : TXC) (d : DD) (x : Int32) : Int32 := if isH d x then fineF fi d x.toNatClampNeg else -1000000001
theorem lot_ok (z1 z2 z3 z4 : Int32) : okHouse (remF (dwF z1) 6) (remF (dwF z2) 100) (remF (dwF z3) 100) (remF (dwF z4) 100) := by
  obtain ⟨a, ha, ea⟩ := dw_rem z1 (n := 6) (by omega) (by omega)
  obtain ⟨b, hb, eb⟩ := dw_rem z2 (n := 100) (by omega) (by omega)
  obtain ⟨c, hc, ec⟩ := dw_rem z3 (n := 100) (by omega) (by omega)
  obtain ⟨d, hd, ed⟩ := dw_rem z4 (n := 100) (by omega) (by omega)
  rw [show (6 : Int32) = nI 6 from rfl, show (100 : Int32) = nI 100 from rfl, ea, eb, ec, ed]
  exact ⟨⟨nI_pos' (by omega), nI_le (b := 5) (by omega) (by omega)⟩, ⟨nI_pos' (by omega), nI_le (b := 99) (by omega) (by omega)⟩, ⟨nI_pos' (by omega), nI_le (b := 99) (by omega) (by omega)⟩, ⟨nI_pos' (by omega), nI_le (b := 99) (by omega) (by omega)⟩⟩
theorem lotF_0 {d : DD} : lotF d 0 = d 0 + 1 := by
  unfold lotF buildF
  rw [upd_eq, drawF_lo (by omega), drawF_lo (by omega), drawF_lo (by omega), drawF_lo (by omega)]
theorem lotsF_0 {d : DD} {n : Nat} (hn : d 0 = nI n) : ∀ i, lotsF i d 0 = nI (n + i)
  | 0 => hn
  | i + 1 => by
    show lotF (lotsF i d) 0 = _
    rw [lotF_0, lotsF_0 hn i, nI_1]; rfl
theorem lotF_lo {d : DD} {k : Nat} (hk : k < 10) (h0 : k ≠ 0) (h8 : k ≠ 8) : lotF d k = d k := by
  unfold lotF buildF
  rw [upd_ne h0, upd_ne (by omega), upd_ne (by omega), upd_ne (by omega), upd_ne (by omega), upd_ne (by omega), drawF_lo h8, drawF_lo h8, drawF_lo h8, drawF_lo h8]
theorem fitSet_lo {x : Int32} {n : Nat} {d : DD} {k : Nat} (hk : k < 10) : itn (fitOne x) n d k = d k :=
  itn_inv (fun e : DD => e k = d k) rfl (fun j y _ h => by show fitOne x j y k = d k; unfold fitOne; rw [upd_ne (by omega)]; exact h)
theorem nightN_nat {d : DD} {ni : Nat} {x : Int32} (hni : d 1 = nI ni) (h9 : ni ≤ 9999) (h1 : 1 ≤ x) (h2 : x ≤ 100) : held x 0 (9999 - d 1) = nI (nightN d x) ∧ nightN d x ≤ 100 ∧ ni + nightN d x ≤ 9999 := by
  obtain ⟨k, hk, rfl⟩ := rng_nat (m := 100) (by omega) (by grind) h2
  have e : (9999 : Int32) - d 1 = nI (9999 - ni) := by rw [hni]; exact pk_sub (a := 9999) h9
  have h3 : held (nI k) 0 (9999 - d 1) = nI (min k (9999 - ni)) := by
    unfold held
    rw [e, if_neg (nI_pos (by omega))]
    by_cases q : nI (9999 - ni) < nI k
    · rw [if_pos q]; rw [nI_ltI (by omega) (by omega)] at q; rw [Nat.min_eq_right (by omega)]
    · rw [if_neg q]; rw [nI_ltI (by omega) (by omega)] at q; rw [Nat.min_eq_left (by omega)]
  have h4 : nightN d (nI k) = min k (9999 - ni) := by unfold nightN; rw [h3]; exact nI_clamp (by omega)
  rw [h4]
  exact ⟨h3, by omega, by omega⟩
theorem shl_pow : ∀ n, n ≤ 10 → (1 : Int32) <<< (nI n &&& 31) = nI (2 ^ n) := by
  intro n hn
  have : ∀ k : Fin 11, (1 : Int32) <<< (nI k.val &&& 31) = nI (2 ^ k.val) := by decide +kernel
  exact this ⟨n, by omega⟩
theorem pow_le10 {n : Nat} (h : n ≤ 10) : 2 ^ n ≤ 1024 := Nat.pow_le_pow_right (n := 2) (by omega) h
/-! rows that are told, the image, counts -/
def ckN (ft : TXC) (kd : DD) (k : Nat) : Int32 := if k % 2 = 0 then nightsF ft (k / 2 + 1) kd 6 else sumF 3 (nightsF ft (k / 2 + 1) kd)
def ckP (ft : TXC) (kd ws : DD) (wt k : Nat) : Prop := ¬ (k < wt ∧ ws k = ckN ft kd k)
def ckQ (ft : TXC) (kd ws : DD) (wt m : Nat) : Nat := @lst (ckP ft kd ws wt) (fun k => by unfold ckP; infer_instance) (2 * m) 0
def R_check (ft : TXC) (kd ws : DD) (ik : Int32) (wt : Nat) (x : Int32) : Int32 := if 1 ≤ x ∧ x ≤ 30 then (if ik = 0 then -1000000002 else if ckQ ft kd ws wt (nightN kd x) = 2 * nightN kd x ∧ ckQ ft kd ws wt (nightN kd x) = wt then 0 else nI (1 + ckQ ft kd ws wt (nightN kd x))) else -1000000001
def R_count (d : DD) (wt tp : Int32) (w : Int32) : Int32 := if w = 0 then d 0 else if w = 1 then d 1 else if w = 2 then d 2 else if w = 3 then d 3 else if w = 4 then d 4 else if w = 5 then d 9 else if w = 6 then wt else if w = 7 then tp else if w = 8 then d 8 else -1000000001
def R_textTold (d kf wf : DD) (x w : Int32) : Int32 := if (0 ≤ x ∧ x ≤ d 9 - 1) ∧ (0 ≤ w ∧ w ≤ 1) then (if w = 0 then kf x.toNatClampNeg else wf x.toNatClampNeg) else -1000000001
def R_why (kf : DD) (nt : Nat) (x : Int32) : Int32 := if 0 ≤ x ∧ x ≤ 2 then (match cntF kf x nt with
  | none => -1000000005
  | some j => nI j) else -1000000001
theorem cntI_none {o : Option Nat} (h : cntI o < 0) (hj : ∀ j, o = some j → j < 14) : o = none := by
  cases o with
  | none => rfl
  | some j => exact absurd h (nI_pos (by have := hj j rfl; omega))
theorem cntI_some {o : Option Nat} (h : ¬ cntI o < 0) : ∃ j, o = some j := by
  cases o with
  | none => exact absurd (by decide) h
  | some j => exact ⟨j, rfl⟩
/-! sheets and slots, as the reference's rows have them -/
abbrev isS (x : Int32) : Prop := 0 ≤ x ∧ x ≤ 3
abbrev badSheet (x so n : Int32) : Prop := ¬ isS x ∨ ¬ (-1 ≤ so ∧ so ≤ 1) ∨ (¬ so < 0 ∧ ¬ n ≤ 24)
def R_sheet (x so n : Int32) : Int32 := if badSheet x so n then -1000000001 else if ¬ so < 0 ∧ ¬ 0 ≤ n then -1000000014 else if so < 0 then 0 else n
abbrev okSheet (x so n : Int32) : Prop := ¬ badSheet x so n ∧ ¬ (¬ so < 0 ∧ ¬ 0 ≤ n)
def fillF (b : Nat) (v : Int32) (m : Nat) (f : DD) : DD := itn (fun i f => upd f (b + i) v) m f
theorem fillF_eq (b : Nat) (v : Int32) (f : DD) : ∀ m j, fillF b v m f j = if b ≤ j ∧ j < b + m then v else f j
  | 0, j => by rw [if_neg (by omega)]; rfl
  | m + 1, j => by
    show upd (fillF b v m f) (b + m) v j = _
    by_cases h : j = b + m
    · rw [h, upd_eq, if_pos (by omega)]
    · rw [upd_ne h, fillF_eq b v f m j]
      by_cases q : b ≤ j ∧ j < b + m
      · rw [if_pos q, if_pos (by omega)]
      · rw [if_neg q, if_neg (by omega)]
def D_sheet1 (so : DD) (x s n : Int32) : DD := if okSheet x s n then upd so x.toNatClampNeg s else so
def D_sheet2 (sz : DD) (x s n : Int32) : DD := if okSheet x s n then upd sz x.toNatClampNeg (if s < 0 then 0 else n) else sz
def D_sheet3 (nu : DD) (x s n : Int32) : DD := if okSheet x s n then fillF (24 * x.toNatClampNeg) 0 24 nu else nu
def D_sheet4 (is : DD) (x s n : Int32) : DD := if okSheet x s n then fillF (24 * x.toNatClampNeg) 1 24 is else is
theorem below_nat {e x : Int32} {n : Nat} (hn : e = nI n) (hn2 : n < 1073741824) (h : 0 ≤ x ∧ x ≤ e - 1) : ∃ j, j < n ∧ x = nI j ∧ x.toNatClampNeg = j := by
  obtain ⟨h1, h2⟩ := h
  have h3 : ¬ x < 0 := by grind
  obtain ⟨j, hj, rfl⟩ := nI_of h3
  refine ⟨j, ?_, rfl, nI_clamp hj⟩
  rw [hn] at h2
  rcases n with _ | k
  · exact absurd h2 (by rw [show (nI 0 - 1 : Int32) = -1 from rfl]; intro q; have := nI_pos' hj; grind)
  · rw [nI_pred, nI_leI (by omega) (by omega)] at h2; omega
theorem ix24 (t i : Nat) : (24 : Int32) * nI t + nI i = nI (24 * t + i) := by
  rw [← nI_add, ← pk_mul]; rfl
theorem ix24b (t i j : Nat) : (24 : Int32) * nI t + nI i + nI j = nI (24 * t + i + j) := by
  rw [ix24, nI_add]
def R_mark (so sz : DD) (x p v : Int32) : Int32 := if isS x then (if so x.toNatClampNeg < 0 then -1000000011 else if 0 ≤ p ∧ p ≤ sz x.toNatClampNeg - 1 then (if so x.toNatClampNeg = 0 ∧ v = -1000000005 then -1000000012 else if so x.toNatClampNeg = 1 ∧ ¬ v = -1000000005 ∧ ¬ (-99999 ≤ v ∧ v ≤ 99999) then -1000000001 else 1) else -1000000013) else -1000000001
abbrev okMark (so sz : DD) (x p v : Int32) : Prop := isS x ∧ ¬ so x.toNatClampNeg < 0 ∧ (0 ≤ p ∧ p ≤ sz x.toNatClampNeg - 1) ∧ ¬ (so x.toNatClampNeg = 0 ∧ v = -1000000005) ∧ ¬ (so x.toNatClampNeg = 1 ∧ ¬ v = -1000000005 ∧ ¬ (-99999 ≤ v ∧ v ≤ 99999))
def markV (so : Int32) (v : Int32) : Int32 := if v = -1000000005 then 0 else if so = 0 then v.toInt16.toInt32 else v
def D_mark1 (so sz isn : DD) (x p v : Int32) : DD := if okMark so sz x p v then upd isn (24 * x.toNatClampNeg + p.toNatClampNeg) (if v = -1000000005 then 0 else 1) else isn
def D_mark2 (so sz nu : DD) (x p v : Int32) : DD := if okMark so sz x p v then upd nu (24 * x.toNatClampNeg + p.toNatClampNeg) (markV (so x.toNatClampNeg) v) else nu
/-- sizes of sheets are Nats up to 24 -/
def SzOK (sz : DD) : Prop := ∀ k, k < 4 → ∃ m, m ≤ 24 ∧ sz k = nI m
def pourV (nu isn : DD) (b h : Nat) (e : DD) : Int32 := if isn (b + h) = 0 then e (10 + 5 * h + 2) else held (nu (b + h)) 0 99
def pourS (nu isn : DD) (b : Nat) (h : Nat) (q : DD × Int32) : DD × Int32 := (upd q.1 (10 + 5 * h + 2) (pourV nu isn b h q.1), q.2 + (if pourV nu isn b h q.1 = q.1 (10 + 5 * h + 2) then 0 else 1))
def pourF (nu isn : DD) (b m : Nat) (d : DD) : DD × Int32 := itn (pourS nu isn b) m (d, 0)
def pourN (d sz : DD) (k : Nat) : Nat := min (nH d) (sz k).toNatClampNeg
def R_pour (d so sz nu isn : DD) (x : Int32) : Int32 := if isS x then (if so x.toNatClampNeg < 0 then -1000000011 else (pourF nu isn (24 * x.toNatClampNeg) (pourN d sz x.toNatClampNeg) d).2) else -1000000001
def D_pour (d so sz nu isn : DD) (x : Int32) : DD := if isS x then (if so x.toNatClampNeg < 0 then d else (pourF nu isn (24 * x.toNatClampNeg) (pourN d sz x.toNatClampNeg) d).1) else d
theorem pourF_lo {nu isn d : DD} {b m k : Nat} (hk : k < 10) : (pourF nu isn b m d).1 k = d k :=
  itn_inv (fun q : DD × Int32 => q.1 k = d k) rfl (fun j y _ h => by show upd y.1 _ _ k = d k; rw [upd_ne (by omega)]; exact h)
abbrev readP (d nu isn : DD) (b k : Nat) : Prop := ¬ isn (b + k) = 0 ∧ (¬ isH d (nI k) ∨ ¬ nu (b + k) = d (10 + 5 * k + 1))
def readK (d nu isn : DD) (b m : Nat) : Nat := lst (readP d nu isn b) m 0
def R_reads (d so sz nu isn : DD) (x : Int32) : Int32 := if isS x then (if so x.toNatClampNeg < 0 then -1000000011 else if readK d nu isn (24 * x.toNatClampNeg) (sz x.toNatClampNeg).toNatClampNeg = (sz x.toNatClampNeg).toNatClampNeg then -1000000005 else nI (readK d nu isn (24 * x.toNatClampNeg) (sz x.toNatClampNeg).toNatClampNeg)) else -1000000001
theorem lst_lt (p : Nat → Prop) [DecidablePred p] : ∀ f k, p k → 0 < f → lst p f k = k
  | 0, k, _, h => absurd h (by omega)
  | f + 1, k, hp, _ => if_pos hp
def R_ask (sh si sk : DD) (x y : Int32) : Int32 := if (0 ≤ x ∧ x ≤ 4) ∧ (0 ≤ y ∧ y ≤ 5) then (if sh x.toNatClampNeg = 0 then -1000000011 else if sh x.toNatClampNeg = 1 ∧ underF (sk x.toNatClampNeg) y then si x.toNatClampNeg else -1000000012) else -1000000001
def R_item (sh ss sn sb : DD) (x y : Int32) : Int32 := if 0 ≤ x ∧ x ≤ 4 then (if sh x.toNatClampNeg = 0 then -1000000011 else if sh x.toNatClampNeg = 2 then (if 0 ≤ y ∧ y ≤ ss x.toNatClampNeg - 1 then (if sb (24 * x.toNatClampNeg + y.toNatClampNeg) = 0 then -1000000012 else sn (24 * x.toNatClampNeg + y.toNatClampNeg)) else -1000000013) else -1000000012) else -1000000001
def R_rest (sh si : DD) (x y : Int32) : Int32 := if 0 ≤ x ∧ x ≤ 4 then (if sh x.toNatClampNeg = 0 then -1000000011 else if sh x.toNatClampNeg = 3 then (if y = 0 then -1000000002 else if y = -1 then 0 else remF (si x.toNatClampNeg) y) else -1000000012) else -1000000001
