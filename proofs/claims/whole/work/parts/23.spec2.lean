/-! more of what the calls answer -/
def cpyF (nu : DD) (src dst m : Nat) : DD := itn (fun i f => upd f (dst + i) (nu (src + i))) m nu
theorem cpyF_eq (nu : DD) (src dst : Nat) : ∀ m j, cpyF nu src dst m j = if dst ≤ j ∧ j < dst + m then nu (src + (j - dst)) else nu j
  | 0, j => by rw [if_neg (by omega)]; rfl
  | m + 1, j => by
    show upd (cpyF nu src dst m) (dst + m) (nu (src + m)) j = _
    by_cases h : j = dst + m
    · rw [h, upd_eq, if_pos (by omega), Nat.add_sub_cancel_left]
    · rw [upd_ne h, cpyF_eq nu src dst m j]
      by_cases q : dst ≤ j ∧ j < dst + m
      · rw [if_pos q, if_pos (by omega)]
      · rw [if_neg q, if_neg (by omega)]
abbrev okIx (p m s : Int32) : Prop := ¬ p < 0 ∧ ¬ m < 0 ∧ p.toInt + m.toInt ≤ s.toInt
def R_copy (so sz : DD) (f p t q m : Int32) : Int32 := if isS f ∧ isS t then (if so f.toNatClampNeg < 0 ∨ so t.toNatClampNeg < 0 then -1000000011 else if so f.toNatClampNeg = so t.toNatClampNeg then (if okIx p m (sz f.toNatClampNeg) ∧ okIx q m (sz t.toNatClampNeg) then m else -1000000013) else -1000000012) else -1000000001
abbrev okCopy (so sz : DD) (f p t q m : Int32) : Prop := (isS f ∧ isS t) ∧ ¬ (so f.toNatClampNeg < 0 ∨ so t.toNatClampNeg < 0) ∧ so f.toNatClampNeg = so t.toNatClampNeg ∧ okIx p m (sz f.toNatClampNeg) ∧ okIx q m (sz t.toNatClampNeg)
def D_copy (so sz nu : DD) (f p t q m : Int32) : DD := if okCopy so sz f p t q m then cpyF nu (24 * f.toNatClampNeg + p.toNatClampNeg) (24 * t.toNatClampNeg + q.toNatClampNeg) m.toNatClampNeg else nu
theorem okIx_nat {p m s : Int32} {sn : Nat} (hs : s = nI sn) (hsn : sn ≤ 24) (h : okIx p m s) : ∃ pn mn, pn + mn ≤ sn ∧ p = nI pn ∧ m = nI mn := by
  obtain ⟨h1, h2, h3⟩ := h
  obtain ⟨a, ha, rfl⟩ := nI_of h1
  obtain ⟨b, hb, rfl⟩ := nI_of h2
  rw [hs, nI_toInt ha, nI_toInt hb, nI_toInt (by omega)] at h3
  exact ⟨a, b, by omega, rfl, rfl⟩
theorem ix_long {p m s : Int32} {sn : Nat} (hs : s = nI sn) (hsn : sn ≤ 24) (h1 : ¬ p < 0) (h2 : ¬ m < 0) : 0 < lg_cmp (p.toInt64 + m.toInt64) s.toInt64 ↔ ¬ p.toInt + m.toInt ≤ s.toInt := by
  obtain ⟨a, ha, rfl⟩ := nI_of h1
  obtain ⟨b, hb, rfl⟩ := nI_of h2
  subst hs
  rw [lg_cmp_gt, nI_l ha, nI_l hb, nI_l (by omega), lN_add, pk_lLT (by omega) (by omega), nI_toInt ha, nI_toInt hb, nI_toInt (by omega)]
  omega
/-! slots -/
abbrev badLay (d : DD) (x t k : Int32) : Prop := ¬ (0 ≤ x ∧ x ≤ 4) ∨ ¬ (0 ≤ t ∧ t ≤ 3) ∨ (t = 1 ∧ ¬ isH d k) ∨ (t = 2 ∧ ¬ isS k)
def R_lay (d so sh : DD) (x t k : Int32) : Int32 := if badLay d x t k then -1000000001 else if t = 2 ∧ so k.toNatClampNeg < 0 then -1000000011 else sh x.toNatClampNeg
abbrev okLay (d so : DD) (x t k : Int32) : Prop := ¬ badLay d x t k ∧ ¬ (t = 2 ∧ so k.toNatClampNeg < 0)
def D_lay1 (d so sh : DD) (x t k : Int32) : DD := if okLay d so x t k then upd sh x.toNatClampNeg t else sh
def D_lay2 (d so sk : DD) (x t k : Int32) : DD := if okLay d so x t k ∧ t = 1 then upd sk x.toNatClampNeg (d (10 + 5 * k.toNatClampNeg + 0)) else sk
def D_lay3 (d so si : DD) (x t k : Int32) : DD := if okLay d so x t k ∧ ¬ t = 2 then upd si x.toNatClampNeg (if t = 1 then worthF (d (10 + 5 * k.toNatClampNeg + 0)) (d (10 + 5 * k.toNatClampNeg + 1)) (d (10 + 5 * k.toNatClampNeg + 3)) (d (10 + 5 * k.toNatClampNeg + 4)) else k) else si
def D_lay4 (d so sz ss : DD) (x t k : Int32) : DD := if okLay d so x t k ∧ t = 2 then upd ss x.toNatClampNeg (sz k.toNatClampNeg) else ss
def rowF (nu : DD) (src dst m : Nat) (f : DD) : DD := itn (fun i f => upd f (dst + i) (nu (src + i))) m f
theorem rowF_eq (nu : DD) (src dst : Nat) (f : DD) : ∀ m j, rowF nu src dst m f j = if dst ≤ j ∧ j < dst + m then nu (src + (j - dst)) else f j
  | 0, j => by rw [if_neg (by omega)]; rfl
  | m + 1, j => by
    show upd (rowF nu src dst m f) (dst + m) (nu (src + m)) j = _
    by_cases h : j = dst + m
    · rw [h, upd_eq, if_pos (by omega), Nat.add_sub_cancel_left]
    · rw [upd_ne h, rowF_eq nu src dst f m j]
      by_cases q : dst ≤ j ∧ j < dst + m
      · rw [if_pos q, if_pos (by omega)]
      · rw [if_neg q, if_neg (by omega)]
def D_lay5 (d so nu sn : DD) (x t k : Int32) : DD := if okLay d so x t k ∧ t = 2 then rowF nu (24 * k.toNatClampNeg) (24 * x.toNatClampNeg) 24 sn else sn
/-! the house that is like a sheet -/
def likeS (nu : DD) (b : Nat) (e : DD) (k : Nat) (h : Nat) (ap : DD) : DD := upd ap h (ap h + sizeF (e (10 + 5 * h + 3) - nu (b + k)))
def likeK (ft : TXC) (d nu isn : DD) (b k : Nat) (ap : DD) : DD := if isn (b + k) = 0 then ap else itn (likeS nu b (nightsF ft k d) k) (nH d) ap
def likeA (ft : TXC) (d nu isn : DD) (b m : Nat) (ap : DD) : DD := itn (likeK ft d nu isn b) m ap
def likeB (ap : DD) (n : Nat) : Nat := itn (fun h b => if h = 0 then 0 else if ap h < ap b then h else b) n 0
def R_like (ft : TXC) (d so sz nu isn : DD) (x w : Int32) : Int32 := if isS x ∧ (0 ≤ w ∧ w ≤ 1) then (if so x.toNatClampNeg < 0 then -1000000011 else if d 0 = 0 then -1000000005 else
  if w = 0 then nI (likeB (likeA ft d nu isn (24 * x.toNatClampNeg) (sz x.toNatClampNeg).toNatClampNeg (fun _ => 0)) (nH d)) else likeA ft d nu isn (24 * x.toNatClampNeg) (sz x.toNatClampNeg).toNatClampNeg (fun _ => 0) (likeB (likeA ft d nu isn (24 * x.toNatClampNeg) (sz x.toNatClampNeg).toNatClampNeg (fun _ => 0)) (nH d))) else -1000000001
/-! the tape -/
def feedW (x y z : Int32) (k : Nat) : Int32 := if k < 4 then x else if k < 8 then y else z
def feedV (x y z : Int32) (k : Nat) : Int32 := ((feedW x y z k).toUInt32 >>> ((nI (24 - 8 * (k % 4))).toUInt32 &&& Int32.toUInt32 31)).toInt32 &&& 255
def feedF (x y z : Int32) (tp : Nat) (m : Nat) (t : DD) : DD := itn (fun k f => upd f (tp + k) (feedV x y z k)) m t
theorem upd_step {ca F : DD} {i : Nat} (h : ∀ j, j < i → ca j = F j) : ∀ j, j < i + 1 → upd ca i (F i) j = F j := by
  intro j hj
  rcases Nat.lt_or_ge j i with z | z
  · rw [upd_ne (by omega)]; exact h j z
  · rw [show j = i by omega, upd_eq]
theorem likeB_1 (ap : DD) : likeB ap 1 = 0 := rfl
theorem likeB_lt (ap : DD) : ∀ n, 1 ≤ n → likeB ap n < n
  | 0, h => by omega
  | 1, _ => by rw [likeB_1]; omega
  | n + 2, _ => by
    have ih := likeB_lt ap (n + 1) (by omega)
    show (if n + 1 = 0 then 0 else if _ then n + 1 else likeB ap (n + 1)) < n + 2
    rw [if_neg (by omega)]
    split
    · exact Nat.lt_succ_self (n + 1)
    · exact Nat.lt_trans ih (Nat.lt_succ_self (n + 1))
theorem likeB_s (ap : DD) (n : Nat) (h : 1 ≤ n) : likeB ap (n + 1) = if ap n < ap (likeB ap n) then n else likeB ap n := by
  show (if n = 0 then 0 else if ap n < ap (likeB ap n) then n else likeB ap n) = _
  rw [if_neg (by omega)]
