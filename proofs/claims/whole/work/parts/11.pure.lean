/-! the reference's numbers, as functions of its row d -/
abbrev DD : Type := Nat → Int32
def onesF (s : Int32) : Int32 := itn (fun k n => n + (s >>> (nI k &&& 31) &&& 1)) 10 0
def cntF (kf : Nat → Int32) (key : Int32) : Nat → Option Nat
  | 0 => none
  | n + 1 => if kf n = key then some n else cntF kf key n
def cntI (o : Option Nat) : Int32 := match o with
  | some j => nI j
  | none => -1
theorem cntF_lt {kf : Nat → Int32} {key : Int32} : ∀ {n j : Nat}, cntF kf key n = some j → j < n ∧ kf j = key
  | 0, j, h => by simp [cntF] at h
  | n + 1, j, h => by
    unfold cntF at h
    split at h
    · cases h; exact ⟨by omega, ‹_›⟩
    · have := cntF_lt h; exact ⟨by omega, this.2⟩
def doneF (sg v w : Int32) : Int32 := if sg = 43 then v + w else if sg = 45 then v - w else if sg = 42 then v * w else if sg = 47 then (if w = 0 then 0 else if w = -1 then 0 - v else v / w) else if sg = 60 then (if v < w then 1 else 0) else if sg = 61 then (if v = w then 1 else 0) else if sg = 62 then (if w < v then 1 else 0) else if sg = 38 then (if ¬ v = 0 ∧ ¬ w = 0 then 1 else 0) else (if ¬ v = 0 ∨ ¬ w = 0 then 1 else 0)
def nmF (a b c e : Int32) (i : Int32) : Int32 := if i = 10000 then a else if i = 10001 then b else if i = 10002 then c else e
def estep (nm : Int32 → Int32) (c : Int32) (st : List Int32) : List Int32 :=
  if c < 10000 then c :: st else if c < 20000 then nm c :: st else if c = 20033 then (match st with
    | x :: r => (if x = 0 then 1 else 0) :: r
    | [] => []) else (match st with
    | y :: x :: r => doneF (c - 20000) x y :: r
    | _ => [])
def evst (nm : Int32 → Int32) (cf : Nat → Int32) (k : Nat) : List Int32 := itn (fun i st => estep nm (cf i) st) k []
def dstep (c : Int32) (n : Nat) : Nat := if c < 20000 then n + 1 else if c = 20033 then n else n - 1
def dpt (cf : Nat → Int32) (k : Nat) : Nat := itn (fun i n => dstep (cf i) n) k 0
/-- a row of codes in which each sign stands behind its sides, and one number comes out -/
def okC (len : Nat) (cf : Nat → Int32) : Prop := len ≤ 96 ∧ (∀ k, k < len → ¬ cf k < 20000 → cf k = 20033 → 1 ≤ dpt cf k) ∧ (∀ k, k < len → ¬ cf k < 20000 → ¬ cf k = 20033 → 2 ≤ dpt cf k) ∧ dpt cf len = 1
def evalF (nm : Int32 → Int32) (len : Nat) (cf : Nat → Int32) : Int32 := (evst nm cf len).headD 0
theorem evst_len {nm : Int32 → Int32} {len : Nat} {cf : Nat → Int32} (h : okC len cf) : ∀ k, k ≤ len → (evst nm cf k).length = dpt cf k
  | 0, _ => rfl
  | k + 1, hk => by
    have ih := evst_len (nm := nm) h k (by omega)
    show (estep nm (cf k) (evst nm cf k)).length = dstep (cf k) (dpt cf k)
    obtain ⟨-, h2, h3, -⟩ := h
    have h2 := h2 k (by omega)
    have h3 := h3 k (by omega)
    unfold estep dstep
    by_cases c1 : cf k < 10000
    · rw [if_pos c1, if_pos (by grind)]; simp [ih]
    · rw [if_neg c1]
      by_cases c2 : cf k < 20000
      · rw [if_pos c2, if_pos c2]; simp [ih]
      · rw [if_neg c2, if_neg c2]
        by_cases c3 : cf k = 20033
        · rw [if_pos c3, if_pos c3]
          have := h2 c2 c3
          cases hst : evst nm cf k with
          | nil => rw [hst] at ih; simp at ih; omega
          | cons x r => rw [hst] at ih; simp at ih; simp; omega
        · rw [if_neg c3, if_neg c3]
          have := h3 c2 c3
          match hst : evst nm cf k with
          | [] => rw [hst] at ih; simp at ih; omega
          | [x] => rw [hst] at ih; simp at ih; omega
          | y :: x :: r => rw [hst] at ih; simp at ih; simp; omega
theorem dpt_le {cf : Nat → Int32} : ∀ k, dpt cf k ≤ k
  | 0 => Nat.le_refl _
  | k + 1 => by
    have ih := dpt_le (cf := cf) k
    show dstep (cf k) (dpt cf k) ≤ k + 1
    unfold dstep
    split
    · omega
    · split <;> omega
/-- a pile of numbers holds a row (its top first) from its bottom on -/
def PR (pl : Nat → Int32) (st : List Int32) : Prop := ∀ (j : Nat) (x : Int32), st.reverse[j]? = some x → pl j = x
theorem PR.nil {pl : Nat → Int32} : PR pl [] := fun j x h => by simp at h
theorem PR.push {pl : Nat → Int32} {st : List Int32} {x : Int32} {n : Nat} (h : PR pl st) (hn : st.length = n) : PR (upd pl n x) (x :: st) := by
  intro j y hy
  rw [List.reverse_cons] at hy
  by_cases hj : j < st.length
  · rw [List.getElem?_append_left (by simpa using hj)] at hy
    rw [pk_un (by omega)]
    exact h j y hy
  · rw [List.getElem?_append_right (by simpa using Nat.le_of_not_lt hj)] at hy
    have hl := (List.getElem?_eq_some_iff.mp hy).1
    simp at hl
    have hjn : j = n := by omega
    subst hjn
    rw [pk_us]
    simp [hn] at hy
    exact hy
theorem PR.pop {pl : Nat → Int32} {st : List Int32} {x : Int32} (h : PR pl (x :: st)) : PR pl st := by
  intro j y hy
  refine h j y ?_
  rw [List.reverse_cons, List.getElem?_append_left (List.getElem?_eq_some_iff.mp hy).1]
  exact hy
theorem PR.top {pl : Nat → Int32} {st : List Int32} {x : Int32} (h : PR pl (x :: st)) : pl st.length = x := by
  refine h st.length x ?_
  rw [List.reverse_cons, List.getElem?_append_right (by simp)]
  simp
theorem PR.keep {pl : Nat → Int32} {st : List Int32} {n : Nat} {x : Int32} (h : PR pl st) (hn : st.length ≤ n) : PR (upd pl n x) st := by
  intro j y hy
  have := (List.getElem?_eq_some_iff.mp hy).1
  simp at this
  rw [pk_un (by omega)]
  exact h j y hy
/-! which text counts, and what fit gives -/
abbrev TXC : Type := Option (Nat × (Nat → Int32))
def okT (ft : TXC) : Prop := ∀ q, ft = some q → okC q.1 q.2
def plainF (ft : TXC) (d : DD) (h : Nat) : Int32 := match ft with
  | none => sizeF (d (10 + 5 * h + 1) - d (10 + 5 * h + 2))
  | some q => held (evalF (nmF (d (10 + 5 * h + 1)) (d (10 + 5 * h + 2)) (d (10 + 5 * h + 3)) (d 0)) q.1 q.2) 0 99
def lodgF (ft : TXC) (d : DD) (h : Nat) : Int32 := held (plainF ft d h + 2 * onesF (d 5 &&& (((1 : Int32) <<< (nI h &&& 31)) ^^^ (-1)))) 0 99
def slackF (ft : TXC) (d : DD) (h : Nat) : Int32 :=
  if d (10 + 5 * h + 0) = 1 then plainF ft d h / 2 else if d (10 + 5 * h + 0) = 2 then lodgF ft d h else if d (10 + 5 * h + 0) = 3 then held (plainF ft d h / 2 - 5) 0 99 else if d (10 + 5 * h + 0) = 4 then held (lodgF ft d h + 10) 0 99 else if d (10 + 5 * h + 0) = 5 then 50 else plainF ft d h
def bendsF (d : DD) (h : Nat) : Int32 :=
  if d (10 + 5 * h + 0) = 1 then 1 else if d (10 + 5 * h + 0) = 2 then -1 - d (10 + 5 * h + 3) / 10 else if d (10 + 5 * h + 0) = 3 then 2 else if d (10 + 5 * h + 0) = 4 then -1 - d (10 + 5 * h + 3) / 10 + 3 else if d (10 + 5 * h + 0) = 5 then 0 else -1
def burnsF (d : DD) (h : Nat) : Int32 :=
  if d (10 + 5 * h + 0) = 1 then 3 else if d (10 + 5 * h + 0) = 2 then 10 else if d (10 + 5 * h + 0) = 3 then 4 else if d (10 + 5 * h + 0) = 4 then 6 else if d (10 + 5 * h + 0) = 5 then 0 else 5
def worthF (k st co he : Int32) : Int32 := if k = 1 then co + st else if k = 2 then 99 - st else if k = 3 then (co + st) / 2 else if k = 4 then 99 - st + 7 else if k = 5 then he else co
def zF (z : Int32) : Int32 := z * 1103515245 + 12345
def dwF (z : Int32) : Int32 := (z.toUInt32 >>> ((8 : Int32).toUInt32 &&& Int32.toUInt32 31)).toInt32
def remF (x y : Int32) : Int32 := x - x / y * y
def nH (d : DD) : Nat := (d 0).toNatClampNeg
def loudF (ft : TXC) (d : DD) (n : Nat) : Int32 := itn (fun h st => st ||| (if d 2 ≤ slackF ft d h then 1 <<< (nI h &&& 31) else 0)) n 0
def heardF (st : Int32) (h : Nat) (d : DD) : DD := upd d (10 + 5 * h + 4) (held (d (10 + 5 * h + 4) + (st >>> (nI h &&& 31) &&& 1)) 0 9999)
def roundF (ft : TXC) (d : DD) : DD :=
  let st := loudF ft d (nH d)
  let e := itn (heardF st) (nH d) (upd d 5 st)
  upd e 6 (held (e 6 + onesF st) 0 99999)
def deliverF (ft : TXC) (d : DD) (h : Nat) : DD := if slackF ft d h = 0 then upd d 7 (held (d 7 + 1) 0 99999) else upd d (10 + 5 * h + 3) (held (d (10 + 5 * h + 3) + d 3) 0 99)
def burnF (h : Nat) (d : DD) : DD := upd (upd d (10 + 5 * h + 3) (held (d (10 + 5 * h + 3) - burnsF d h) 0 99)) (10 + 5 * h + 1) (held (d (10 + 5 * h + 1) + bendsF d h) 0 99)
def drawF (d : DD) : DD := upd d 8 (zF (d 8))
def treadF (d : DD) : DD :=
  let e := drawF d
  if remF (dwF (e 8)) 100 < e 4 ∧ 0 < e 0 then
    let e2 := drawF e
    let e3 := drawF e2
    upd e3 (10 + 5 * (remF (dwF (e2 8)) (e 0)).toNatClampNeg + 2) (remF (dwF (e3 8)) 100)
  else e
def nightF (ft : TXC) (d : DD) : DD :=
  let e := roundF ft d
  let e1 := if 0 < nH d then deliverF ft e (remF (e 1) (e 0)).toNatClampNeg else e
  let e2 := treadF (itn burnF (nH d) e1)
  upd e2 1 (e2 1 + 1)
def nightsF (ft : TXC) (n : Nat) (d : DD) : DD := itn (fun _ e => nightF ft e) n d
def sumF (w : Nat) (d : DD) : Int32 := itn (fun h x => x + d (10 + 5 * h + w)) (nH d) 0
def coldF (d : DD) : Int32 := itn (fun h x => x ||| (if d (10 + 5 * h + 3) = 0 then 1 <<< (nI h &&& 31) else 0)) (nH d) 0
def loudestB (d : DD) (n : Nat) : Nat := itn (fun h b => if d (10 + 5 * b + 4) < d (10 + 5 * h + 4) then h else b) n 0
def aboveF (k : Int32) : Int32 := if k = 3 then 1 else if k = 4 then 2 else 0
abbrev underF (k o : Int32) : Prop := o = 0 ∨ k = o ∨ aboveF k = o
/-- the text that counts for a key, as the reference's rows have it -/
def TxOK (d kf sf cdf : DD) (key : Int32) (ft : TXC) : Prop := ∃ nt : Nat, d 9 = nI nt ∧ nt ≤ 14 ∧ match cntF kf key nt with
  | none => ft = none
  | some j => ∃ (len : Nat) (tc : DD), ft = some (len, tc) ∧ sf j = nI len ∧ (∀ k, k < len → cdf (96 * j + k) = tc k) ∧ okC len tc
theorem TxOK.of {d e kf sf cdf : DD} {key : Int32} {ft : TXC} (h : TxOK d kf sf cdf key ft) (he : e 9 = d 9) : TxOK e kf sf cdf key ft := by
  obtain ⟨nt, h1, h2⟩ := h
  exact ⟨nt, by rw [he]; exact h1, h2⟩
theorem rem_nat {a b : Nat} (ha : a < 2147483648) (h0 : 0 < b) (hb : b < 2147483648) : remF (nI a) (nI b) = nI (a % b) := pk_rem ha h0 hb
theorem dwF_nat (z : Int32) : ∃ k : Nat, k < 16777216 ∧ dwF z = nI k := by
  refine ⟨z.toBitVec.toNat / 2 ^ 8, ?_, ?_⟩
  · have := z.toBitVec.isLt
    omega
  · apply Int32.toBitVec_inj.mp
    apply BitVec.eq_of_toNat_eq
    unfold dwF
    rw [pk_ushr z 8 8 (by decide), pk_tn (by have := z.toBitVec.isLt; omega)]
theorem itn_inv {α : Type} {f : Nat → α → α} (P : α → Prop) {n : Nat} {x : α} (h0 : P x) (hs : ∀ k y, k < n → P y → P (f k y)) : P (itn f n x) := by
  have : ∀ m, m ≤ n → P (itn f m x) := by
    intro m
    induction m with
    | zero => intro _; exact h0
    | succ m ih => intro hm; exact hs m _ (by omega) (ih (by omega))
  exact this n (Nat.le_refl _)
theorem upd_ne {f : DD} {k j : Nat} {x : Int32} (h : j ≠ k) : upd f k x j = f j := pk_un h
theorem upd_eq {f : DD} {k : Nat} {x : Int32} : upd f k x k = x := pk_us
/-- the rules, the night, the number of houses and texts stay in a round -/
theorem heardF_lo {st : Int32} {n : Nat} {d : DD} {k : Nat} (hk : k < 10) : itn (heardF st) n d k = d k :=
  itn_inv (fun e : DD => e k = d k) rfl (fun j y _ h => by show heardF st j y k = d k; unfold heardF; rw [upd_ne (by omega)]; exact h)
theorem roundF_lo {ft : TXC} {d : DD} {k : Nat} (hk : k < 10) (h5 : k ≠ 5) (h6 : k ≠ 6) : roundF ft d k = d k := by
  show upd _ 6 _ k = d k
  rw [upd_ne h6, heardF_lo hk, upd_ne h5]
theorem deliverF_lo {ft : TXC} {d : DD} {h k : Nat} (hk : k < 10) (h7 : k ≠ 7) : deliverF ft d h k = d k := by
  unfold deliverF
  split
  · rw [upd_ne h7]
  · rw [upd_ne (by omega)]
theorem burnF_lo {n : Nat} {d : DD} {k : Nat} (hk : k < 10) : itn burnF n d k = d k :=
  itn_inv (fun e : DD => e k = d k) rfl (fun j y _ h => by show burnF j y k = d k; unfold burnF; rw [upd_ne (by omega), upd_ne (by omega)]; exact h)
theorem drawF_lo {d : DD} {k : Nat} (h8 : k ≠ 8) : drawF d k = d k := upd_ne h8
theorem treadF_lo {d : DD} {k : Nat} (hk : k < 10) (h8 : k ≠ 8) : treadF d k = d k := by
  unfold treadF
  simp only
  split
  · rw [upd_ne (by omega), drawF_lo h8, drawF_lo h8, drawF_lo h8]
  · rw [drawF_lo h8]
theorem nightF_lo {ft : TXC} {d : DD} {k : Nat} (hk : k < 10) (h5 : k ≠ 5) (h6 : k ≠ 6) (h7 : k ≠ 7) (h8 : k ≠ 8) (h1 : k ≠ 1) : nightF ft d k = d k := by
  show upd _ 1 _ k = d k
  rw [upd_ne h1, treadF_lo hk h8, burnF_lo hk]
  split
  · rw [deliverF_lo hk h7, roundF_lo hk h5 h6]
  · rw [roundF_lo hk h5 h6]
theorem nightF_1 {ft : TXC} {d : DD} : nightF ft d 1 = d 1 + 1 := by
  show upd _ 1 _ 1 = d 1 + 1
  rw [upd_eq, treadF_lo (by omega) (by omega), burnF_lo (by omega)]
  split
  · rw [deliverF_lo (by omega) (by omega), roundF_lo (by omega) (by omega) (by omega)]
  · rw [roundF_lo (by omega) (by omega) (by omega)]
theorem nightsF_lo {ft : TXC} {d : DD} {n k : Nat} (hk : k < 10) (h5 : k ≠ 5) (h6 : k ≠ 6) (h7 : k ≠ 7) (h8 : k ≠ 8) (h1 : k ≠ 1) : nightsF ft n d k = d k :=
  itn_inv (fun e : DD => e k = d k) rfl (fun j y _ h => by show nightF ft y k = d k; rw [nightF_lo hk h5 h6 h7 h8 h1]; exact h)
theorem nH_of {d : DD} {n : Nat} (h : d 0 = nI n) (hn : n ≤ 10) : nH d = n := by
  unfold nH; rw [h]; exact nI_clamp (by omega)
theorem nightsF_1 {ft : TXC} {d : DD} {ni : Nat} (h : d 1 = nI ni) : ∀ n, nightsF ft n d 1 = nI (ni + n)
  | 0 => h
  | n + 1 => by
    show nightF ft (nightsF ft n d) 1 = _
    rw [nightF_1, nightsF_1 h n, nI_1]; rfl
theorem dw_rem (z : Int32) {n : Nat} (h0 : 0 < n) (hn : n < 2147483648) : ∃ j, j < n ∧ remF (dwF z) (nI n) = nI j := by
  obtain ⟨k, hk, e⟩ := dwF_nat z
  exact ⟨k % n, Nat.mod_lt _ h0, by rw [e]; exact rem_nat (by omega) h0 hn⟩
theorem loudestB_le (d : DD) : ∀ n, 1 ≤ n → loudestB d n < n
  | 0, h => by omega
  | 1, _ => by show (if _ then 0 else 0) < 1; split <;> omega
  | n + 2, _ => by
    have ih := loudestB_le d (n + 1) (by omega)
    show (if _ then n + 1 else loudestB d (n + 1)) < n + 2
    split
    · exact Nat.lt_succ_self (n + 1)
    · exact Nat.lt_trans ih (Nat.lt_succ_self (n + 1))
theorem loudestB_1 (d : DD) : loudestB d 1 = 0 := by show (if _ then 0 else 0) = 0; split <;> rfl
theorem nightF_eq {ft : TXC} {d : DD} {n ni : Nat} (hn : d 0 = nI n) (hn10 : n ≤ 10) (hni : d 1 = nI ni) (hni2 : ni < 1000000) : nightF ft d = upd (treadF (itn burnF n (if 0 < n then deliverF ft (roundF ft d) (ni % n) else roundF ft d))) 1 (treadF (itn burnF n (if 0 < n then deliverF ft (roundF ft d) (ni % n) else roundF ft d)) 1 + 1) := by
  have hne : roundF ft d 0 = nI n := by rw [roundF_lo (by omega) (by omega) (by omega)]; exact hn
  have hni1 : roundF ft d 1 = nI ni := by rw [roundF_lo (by omega) (by omega) (by omega)]; exact hni
  unfold nightF
  simp only [nH_of hn hn10, hne, hni1]
  by_cases hn0 : 0 < n
  · rw [rem_nat (by omega) hn0 (by omega), nI_clamp (by have := Nat.mod_lt ni hn0; omega)]
  · simp only [if_neg hn0]
