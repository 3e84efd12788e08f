/-! what the class's sheets become -/
def D_sheetP (pl : Nat → DD) (x s n : Int32) : Nat → DD := if okSheet x s n then updP pl x.toNatClampNeg (fun _ => 0) else pl
def markX (so v : Int32) : Int32 := if so = 0 then v.toInt16.toInt32 else v
def D_markP (so sz : DD) (pl : Nat → DD) (x p v : Int32) : Nat → DD := if okMark so sz x p v then updP pl x.toNatClampNeg (upd (pl x.toNatClampNeg) p.toNatClampNeg (markX (so x.toNatClampNeg) v)) else pl
def D_copyP (so sz : DD) (pl : Nat → DD) (f p t q m : Int32) : Nat → DD := if okCopy so sz f p t q m then updP pl t.toNatClampNeg (va_cpy (pl f.toNatClampNeg) (pl t.toNatClampNeg) p.toNatClampNeg q.toNatClampNeg m.toNatClampNeg) else pl
theorem num_iff {so sz : DD} {pl : Nat → DD} {nu isn : DD} (h : ShOK so sz pl nu isn) {k i m : Nat} (hk : k < 4) (h0 : ¬ so k < 0) (hi : i < m) (hm : m ≤ 24) : ((0 ≤ nI i ∧ nI i ≤ nI m - 1) ∧ ¬ pl k (nI i).toNatClampNeg = -1000000005) ↔ ¬ isn (24 * k + i) = 0 := by
  rw [nI_clamp (by omega), pl_none h hk h0 (by omega)]
  constructor
  · exact fun z => z.2
  · refine fun z => ⟨⟨nI_pos' (by omega), ?_⟩, z⟩
    obtain ⟨q, rfl⟩ : ∃ q, m = q + 1 := ⟨m - 1, by omega⟩
    rw [nI_pred]
    exact nI_le (by omega) (by omega)
theorem pour_step0 {nu isn d : DD} {b i : Nat} (h : isn (b + i) = 0) : pourF nu isn b (i + 1) d = pourF nu isn b i d := by
  show pourS nu isn b i (pourF nu isn b i d) = _
  unfold pourS pourV
  rw [if_pos h, upd_self, if_pos rfl, Int32.add_zero]
theorem pour_step1 {nu isn d : DD} {b i : Nat} (h : ¬ isn (b + i) = 0) : (pourF nu isn b (i + 1) d).1 = upd (pourF nu isn b i d).1 (10 + 5 * i + 2) (held (nu (b + i)) 0 99) ∧ (pourF nu isn b (i + 1) d).2 = (pourF nu isn b i d).2 + (if held (nu (b + i)) 0 99 = (pourF nu isn b i d).1 (10 + 5 * i + 2) then 0 else 1) := by
  show (pourS nu isn b i (pourF nu isn b i d)).1 = _ ∧ (pourS nu isn b i (pourF nu isn b i d)).2 = _
  unfold pourS pourV
  rw [if_neg h]
  exact ⟨rfl, rfl⟩
theorem WD.opnM {g : GG} {A : Nat → Prop} {s : State} {H : Heap} {locs : List Loc} {pre post : BW} {txb ot : va_W} {c1 c2 : Nat × va_E} (h : WD g A s H locs (pre ++ txb :: post)) (hp : txb.Perm ([c1, c2] ++ ot)) : WD g A s H locs (pre ++ [c1] :: [c2] :: ot :: post) := by
  refine h.perm ?_
  rw [List.flatten_append, List.flatten_append]
  refine List.Perm.append_left _ ?_
  simp only [List.flatten_cons]
  have h2 := List.Perm.append_right post.flatten hp
  simpa using h2
theorem WD.clsM {g : GG} {A : Nat → Prop} {s : State} {H : Heap} {locs : List Loc} {pre post : BW} {txb ot : va_W} {c1 c2 : Nat × va_E} (h : WD g A s H locs (pre ++ [c1] :: [c2] :: ot :: post)) (hp : txb.Perm ([c1, c2] ++ ot)) : WD g A s H locs (pre ++ txb :: post) := by
  refine h.perm ?_
  rw [List.flatten_append, List.flatten_append]
  refine List.Perm.append_left _ ?_
  simp only [List.flatten_cons]
  have h2 := List.Perm.append_right post.flatten hp.symm
  simpa using h2
/-! what the class's slots become -/
def L_h (d so kd : DD) (w : Nat) (x t k : Int32) : DD := if okLay d so x t k ∧ t = 1 then upd kd x.toNatClampNeg (d (10 + 5 * k.toNatClampNeg + w)) else kd
def L_n (d so nu : DD) (x t k : Int32) : DD := if okLay d so x t k ∧ ¬ t = 1 ∧ ¬ t = 2 then upd nu x.toNatClampNeg k else nu
def L_r (d so rs f : DD) (x t k : Int32) : DD := if okLay d so x t k ∧ t = 2 then upd rs x.toNatClampNeg (f k.toNatClampNeg) else rs
def L_p (d so : DD) (rp pl : Nat → DD) (x t k : Int32) : Nat → DD := if okLay d so x t k ∧ t = 2 then updP rp x.toNatClampNeg (pl k.toNatClampNeg) else rp
/-- what the class's slots are, by the reference's -/
def SlOK (kd st co he nu rl : DD) (rp : Nat → DD) (sh si sk ss sn sb : DD) : Prop := ∀ s, s < 5 → (sh s = 1 → (0 ≤ kd s ∧ kd s ≤ 5) ∧ kd s = sk s ∧ worthF (kd s) (st s) (co s) (he s) = si s) ∧ (sh s = 3 → nu s = si s) ∧ (sh s = 2 → (∃ m, m ≤ 24 ∧ ss s = nI m) ∧ rl s = ss s ∧ ∀ i, i < 24 → rp s i = plV (sn (24 * s + i)) (sb (24 * s + i)) ∧ ¬ sn (24 * s + i) = -1000000005)
theorem rem_m1 (x : Int32) : x - x / (-1) * (-1) = 0 := by
  rw [div_m1]
  grind
