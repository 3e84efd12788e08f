/-! the texts of both sides -/
def TXI (g : GG) (tr : Nat → Option Nat) (txb : va_W) (kf sf wf cdf : DD) (nt : Nat) : Prop := ∀ j, j < nt → ∃ (xa ca : Nat) (cs : List Int32) (tx : DD) (ot : va_W), tr j = some xa ∧ cs.length ≤ 96 ∧ (kf j = 0 ∨ kf j = 1 ∨ kf j = 2) ∧ CG (kf j) cs ∧ sf j = nI cs.length ∧ CR (fun k => cdf (96 * j + k)) cs ∧ CR tx (cs.map (xm (kf j))) ∧ txb.Perm ([(xa, .inr (5, [.int (kf j), .int (wf j), .ref ca])), (ca, .inl (g.2.1 0, cs.length, .inl tx))] ++ ot)
def cnV (o : Option Nat) : Int32 := match o with
  | none => -1000000005
  | some j => nI j
def CNI (cn kf : DD) (nt : Nat) : Prop := ∀ k : Nat, k < 3 → cn k = cnV (cntF kf (nI k) nt)
theorem xm_0 {x : Int32} : xm 0 x = x := by
  unfold xm
  rw [if_neg (by decide), if_neg (by decide)]
theorem map_xm0 (cs : List Int32) : cs.map (xm 0) = cs := by
  rw [show (xm 0) = id from funext fun x => xm_0]
  exact List.map_id cs
theorem fit_of {g : GG} {tr : Nat → Option Nat} {txb : va_W} {kf sf wf cdf cn d : DD} {nt n0 : Nat} (hT : TXI g tr txb kf sf wf cdf n0) (hc : CNI cn kf nt) (h0 : nt ≤ n0) (h14 : nt ≤ 14) (h9 : d 9 = nI nt) : ∃ ft : TXC, FitAt g tr txb (cn 0) ft ∧ okF ft ∧ TxOK d kf sf cdf 0 ft := by
  have e := hc 0 (by omega)
  cases h : cntF kf (nI 0) nt with
  | none =>
    rw [h] at e
    have h' : cntF kf 0 nt = none := h
    refine ⟨none, ?_, fun q hq => (by cases hq), nt, h9, h14, ?_⟩
    · show cn 0 < 0
      rw [e]; decide
    · rw [h']
  | some j =>
    rw [h] at e
    have h' : cntF kf 0 nt = some j := h
    obtain ⟨hj, hk0⟩ := cntF_lt h'
    obtain ⟨xa, ca, cs, tx, ot, h1, h2, -, h4, h5, h6, h7, h8⟩ := hT j (by omega)
    rw [hk0] at h4 h7 h8
    rw [map_xm0] at h7
    refine ⟨some (cs.length, tx), ⟨j, xa, ca, 0, wf j, ot, e, by omega, h1, h2, h8⟩, ?_, nt, h9, h14, ?_⟩
    · intro q hq
      cases hq
      exact ⟨okC_of h7 (h4.1 0) h2, okSg_of h7 h4.2, okNm_of h7 h4.2⟩
    · rw [h']
      exact ⟨cs.length, tx, rfl, h5, fun k hk => by rw [h7.at hk]; exact (h6.at hk), okC_of h7 (h4.1 0) h2⟩
theorem nm_lt {ky : Int32} {j : Nat} (hj : j < (if ky = 0 then 4 else 2)) : xm ky (nI (10000 + j)) < 20000 := by
  have hj4 : j < 4 := by split at hj <;> omega
  have hlt : nI (10000 + j) < 20000 := by
    rcases (show j = 0 ∨ j = 1 ∨ j = 2 ∨ j = 3 by omega) with y | y | y | y <;> subst y <;> decide
  unfold xm
  split <;> (try split) <;> (try split) <;> first | exact hlt | decide
theorem okSg_map {ky : Int32} {cs : List Int32} {tx : DD} (hx : CR tx (cs.map (xm ky))) (hg : ∀ x ∈ cs, cOK ky x) : okSg cs.length tx := by
  intro k hk h1 h2
  rw [hx.atm hk] at h1 h2 ⊢
  have hc := hg _ (List.getElem_mem hk)
  generalize cs[k] = x at hc h1 h2 ⊢
  rcases hc with z | ⟨j, hj, z⟩ | z | ⟨s, hs, z⟩
  · rw [xm_low z] at h1
    exact absurd (show x < 20000 by grind) h1
  · rw [z] at h1
    exact absurd (nm_lt hj) h1
  · rw [z, xm_not] at h2
    exact absurd rfl h2
  · rw [z, xm_sgn hs, show (20000 : Int32) + s - 20000 = s by grind]
    exact hs
theorem okC_map {ky : Int32} {cs : List Int32} {tx : DD} (hl : cs.length ≤ 96) (hcg : CG ky cs) (hx : CR tx (cs.map (xm ky))) : okC cs.length tx := by
  have h := okC_of hx (by rw [gd_map]; exact hcg.1 0) (by rw [List.length_map]; exact hl)
  rw [List.length_map] at h
  exact h
theorem big_no {s : Int32} (hs : isSgn s) {p : Prop} (h : (20000 + s : Int32) < 20000) : p := absurd h (sg_big hs)
theorem nm_fee {x : Int32} (h : cOK 1 x) (h1 : ¬ xm 1 x < 10000) (h2 : xm 1 x < 20000) : xm 1 x = 10004 ∨ xm 1 x = 10005 := by
  rcases h with z | ⟨j, hj, z⟩ | z | ⟨s, hs, z⟩
  · rw [xm_low z] at h1; exact absurd z h1
  · have hj2 : j < 2 := hj
    rcases (show j = 0 ∨ j = 1 by omega) with y | y <;> subst y <;> subst z
    · exact Or.inl (by decide)
    · exact Or.inr (by decide)
  · rw [z, xm_not] at h2; exact absurd h2 (by decide)
  · rw [z, xm_sgn hs] at h2; exact big_no hs h2
theorem nm_fine {x : Int32} (h : cOK 2 x) (h1 : ¬ xm 2 x < 10000) (h2 : xm 2 x < 20000) : xm 2 x = 10000 ∨ xm 2 x = 10002 := by
  rcases h with z | ⟨j, hj, z⟩ | z | ⟨s, hs, z⟩
  · rw [xm_low z] at h1; exact absurd z h1
  · have hj2 : j < 2 := hj
    rcases (show j = 0 ∨ j = 1 by omega) with y | y <;> subst y <;> subst z
    · exact Or.inl (by decide)
    · exact Or.inr (by decide)
  · rw [z, xm_not] at h2; exact absurd h2 (by decide)
  · rw [z, xm_sgn hs] at h2; exact big_no hs h2
theorem fee_of {g : GG} {tr : Nat → Option Nat} {txb : va_W} {kf sf wf cdf cn d : DD} {nt n0 : Nat} (hT : TXI g tr txb kf sf wf cdf n0) (hc : CNI cn kf nt) (h0 : nt ≤ n0) (h14 : nt ≤ 14) (h9 : d 9 = nI nt) : ∃ fx fe : TXC, FitAt g tr txb (cn 1) fx ∧ okN2 10004 10005 fx ∧ TxOK d kf sf cdf 1 fe ∧ ∀ e : DD, feeX fx e = feeF fe e := by
  have e := hc 1 (by omega)
  cases h : cntF kf (nI 1) nt with
  | none =>
    rw [h] at e
    have h' : cntF kf 1 nt = none := h
    refine ⟨none, none, ?_, fun q hq => (by cases hq), ⟨nt, h9, h14, ?_⟩, fun e => rfl⟩
    · show cn 1 < 0
      rw [e]; decide
    · rw [h']
  | some j =>
    rw [h] at e
    have h' : cntF kf 1 nt = some j := h
    obtain ⟨hj, hk0⟩ := cntF_lt h'
    obtain ⟨xa, ca, cs, tx, ot, h1, h2, -, h4, h5, h6, h7, h8⟩ := hT j (by omega)
    rw [hk0] at h4 h7 h8
    refine ⟨some (cs.length, tx), some (cs.length, fun k => cdf (96 * j + k)), ⟨j, xa, ca, 1, wf j, ot, e, by omega, h1, h2, h8⟩, ?_, ⟨nt, h9, h14, ?_⟩, fun e => ?_⟩
    · intro q hq
      cases hq
      refine ⟨okC_map h2 h4 h7, okSg_map h7 h4.2, fun k hk a1 a2 => ?_⟩
      have a1 : ¬ tx k < 10000 := a1
      have a2 : tx k < 20000 := a2
      show tx k = 10004 ∨ tx k = 10005
      rw [h7.atm hk] at a1 a2 ⊢
      exact nm_fee (h4.2 _ (List.getElem_mem hk)) a1 a2
    · rw [h']
      exact ⟨cs.length, _, rfl, h5, fun k hk => rfl, okC_of h6 (h4.1 0) h2⟩
    · exact eval_map h6 h7 (fun x hx => xm_fee (h4.2 x hx))
theorem fine_of {g : GG} {tr : Nat → Option Nat} {txb : va_W} {kf sf wf cdf cn d : DD} {nt n0 : Nat} (hT : TXI g tr txb kf sf wf cdf n0) (hc : CNI cn kf nt) (h0 : nt ≤ n0) (h14 : nt ≤ 14) (h9 : d 9 = nI nt) : ∃ fx fe : TXC, FitAt g tr txb (cn 2) fx ∧ okN2 10000 10002 fx ∧ TxOK d kf sf cdf 2 fe ∧ ∀ (e : DD) (i : Nat), fineX fx e i = fineF fe e i := by
  have e := hc 2 (by omega)
  cases h : cntF kf (nI 2) nt with
  | none =>
    rw [h] at e
    have h' : cntF kf 2 nt = none := h
    refine ⟨none, none, ?_, fun q hq => (by cases hq), ⟨nt, h9, h14, ?_⟩, fun e i => rfl⟩
    · show cn 2 < 0
      rw [e]; decide
    · rw [h']
  | some j =>
    rw [h] at e
    have h' : cntF kf 2 nt = some j := h
    obtain ⟨hj, hk0⟩ := cntF_lt h'
    obtain ⟨xa, ca, cs, tx, ot, h1, h2, -, h4, h5, h6, h7, h8⟩ := hT j (by omega)
    rw [hk0] at h4 h7 h8
    refine ⟨some (cs.length, tx), some (cs.length, fun k => cdf (96 * j + k)), ⟨j, xa, ca, 2, wf j, ot, e, by omega, h1, h2, h8⟩, ?_, ⟨nt, h9, h14, ?_⟩, fun e i => ?_⟩
    · intro q hq
      cases hq
      refine ⟨okC_map h2 h4 h7, okSg_map h7 h4.2, fun k hk a1 a2 => ?_⟩
      have a1 : ¬ tx k < 10000 := a1
      have a2 : tx k < 20000 := a2
      show tx k = 10000 ∨ tx k = 10002
      rw [h7.atm hk] at a1 a2 ⊢
      exact nm_fine (h4.2 _ (List.getElem_mem hk)) a1 a2
    · rw [h']
      exact ⟨cs.length, _, rfl, h5, fun k hk => rfl, okC_of h6 (h4.1 0) h2⟩
    · exact eval_map h6 h7 (fun x hx => xm_fine (h4.2 x hx))
theorem ttx_of {g : GG} {tr : Nat → Option Nat} {txb : va_W} {kf sf wf cdf : DD} {nt n0 : Nat} (hT : TXI g tr txb kf sf wf cdf n0) (h0 : nt ≤ n0) : TTx g tr txb kf wf nt := by
  intro j hj
  obtain ⟨xa, ca, cs, tx, ot, h1, h2, -, -, -, -, -, h8⟩ := hT j (by omega)
  exact ⟨xa, ca, cs.length, tx, ot, h1, h2, h8⟩
theorem txi_le {g : GG} {tr : Nat → Option Nat} {txb : va_W} {kf sf wf cdf : DD} {nt n0 : Nat} (hT : TXI g tr txb kf sf wf cdf n0) (h0 : nt ≤ n0) : TXI g tr txb kf sf wf cdf nt := fun j hj => hT j (by omega)
theorem why_of {cn kf : DD} {nt : Nat} (hc : CNI cn kf nt) (x : Int32) : (if 0 ≤ x ∧ x ≤ 2 then cn x.toNatClampNeg else -1000000001) = R_why kf nt x := by
  unfold R_why
  by_cases h : 0 ≤ x ∧ x ≤ 2
  · rw [if_pos h, if_pos h]
    obtain ⟨k, hk, rfl⟩ := rng_nat (m := 2) (by omega) h.1 h.2
    rw [nI_clamp (by omega), hc k (by omega)]
    rfl
  · rw [if_neg h, if_neg h]
theorem cntF_cg {kf kf' : DD} {key : Int32} : ∀ n : Nat, (∀ i, i < n → kf i = kf' i) → cntF kf key n = cntF kf' key n
  | 0, _ => rfl
  | n + 1, h => by
    show (if kf n = key then some n else cntF kf key n) = (if kf' n = key then some n else cntF kf' key n)
    rw [h n (by omega), cntF_cg n (fun i hi => h i (by omega))]
theorem cni_keep {cn kf : DD} {nt n0 : Nat} {ky : Int32} (hc : CNI cn kf nt) (h : nt ≤ n0) : CNI cn (upd kf n0 ky) nt := fun k hk => by
  rw [hc k hk, cntF_cg (kf' := upd kf n0 ky) nt (fun i hi => (upd_ne (by omega)).symm)]
theorem cni_add {cn kf : DD} {nt : Nat} {ky : Int32} (hc : CNI cn kf nt) (hk : ky = 0 ∨ ky = 1 ∨ ky = 2) : CNI (upd cn ky.toNatClampNeg (nI nt)) (upd kf nt ky) (nt + 1) := by
  intro k hk3
  show _ = cnV (if upd kf nt ky nt = nI k then some nt else cntF (upd kf nt ky) (nI k) nt)
  rw [upd_eq]
  have hky : ∃ j : Nat, j < 3 ∧ ky = nI j := by
    rcases hk with z | z | z
    · exact ⟨0, by omega, z⟩
    · exact ⟨1, by omega, z⟩
    · exact ⟨2, by omega, z⟩
  obtain ⟨j, hj, rfl⟩ := hky
  rw [nI_clamp (by omega)]
  by_cases h : k = j
  · subst h
    rw [if_pos rfl, upd_eq]; rfl
  · rw [if_neg (fun z => h ((nI_eq (by omega) (by omega)).mp z).symm), upd_ne h]
    exact (cni_keep (ky := nI j) hc (Nat.le_refl nt)) k hk3
theorem txi_add {g : GG} {tr : Nat → Option Nat} {txb : va_W} {kf sf wf cdf : DD} {nt : Nat} (hT : TXI g tr txb kf sf wf cdf nt) {ky wv : Int32} {cs : List Int32} {uc tx : DD} {x1 x2 : Nat} (hl : cs.length ≤ 96) (hk : ky = 0 ∨ ky = 1 ∨ ky = 2) (hcg : CG ky cs) (hu : CR uc cs) (hx : CR tx (cs.map (xm ky))) :
    TXI g (va_up tr nt (some x1)) (txb ++ ([(x2, .inl (g.2.1 0, cs.length, .inl tx))] ++ [(x1, .inr (5, [.int ky, .int wv, .ref x2]))])) (upd kf nt ky) (upd sf nt (nI cs.length)) (upd wf nt wv) (cdR uc (96 * nt) cs.length cdf) (nt + 1) := by
  intro j hj
  by_cases h : j = nt
  · subst h
    refine ⟨x1, x2, cs, tx, txb, if_pos rfl, hl, ?_, ?_, ?_, ?_, ?_, ?_⟩
    · rw [upd_eq]; exact hk
    · rw [upd_eq]; exact hcg
    · rw [upd_eq]
    · intro k y hy
      have hkl : k < cs.length := (List.getElem?_eq_some_iff.mp hy).1
      show cdR uc (96 * j) cs.length cdf (96 * j + k) = y
      rw [cdR_eq, if_pos (by omega), Nat.add_sub_cancel_left]
      exact hu k y hy
    · rw [upd_eq]; exact hx
    · rw [upd_eq, upd_eq]
      exact List.perm_append_comm.trans (List.Perm.append_right txb (List.Perm.swap _ _ _))
  · obtain ⟨xa, ca, cs', tx', ot, h1, h2, h3, h4, h5, h6, h7, h8⟩ := hT j (by omega)
    refine ⟨xa, ca, cs', tx', ot ++ ([(x2, .inl (g.2.1 0, cs.length, .inl tx))] ++ [(x1, .inr (5, [.int ky, .int wv, .ref x2]))]), (if_neg h).trans h1, h2, ?_, ?_, ?_, ?_, ?_, ?_⟩
    · rw [upd_ne h]; exact h3
    · rw [upd_ne h]; exact h4
    · rw [upd_ne h]; exact h5
    · intro k y hy
      have hkl : k < cs'.length := (List.getElem?_eq_some_iff.mp hy).1
      show cdR uc (96 * nt) cs.length cdf (96 * j + k) = y
      rw [cdR_eq, if_neg (by omega)]
      exact h6 k y hy
    · rw [upd_ne h]; exact h7
    · rw [upd_ne h, upd_ne h]
      exact (List.Perm.append_right _ h8).trans (List.Perm.of_eq (List.append_assoc _ _ _))
/-! bytes of the tape; flags of places -/
theorem by_feed {x y z : Int32} {tp m : Nat} {t : DD} (h : ∀ j, 0 ≤ t j ∧ t j ≤ 255) : ∀ j, 0 ≤ feedF x y z tp m t j ∧ feedF x y z tp m t j ≤ 255 :=
  itn_inv (fun f : DD => ∀ j, 0 ≤ f j ∧ f j ≤ 255) h (fun k f _ hf j => by
    show 0 ≤ upd f (tp + k) (feedV x y z k) j ∧ upd f (tp + k) (feedV x y z k) j ≤ 255
    by_cases e : j = tp + k
    · rw [e, upd_eq]
      unfold feedV
      generalize ((feedW x y z k).toUInt32 >>> ((nI (24 - 8 * (k % 4))).toUInt32 &&& Int32.toUInt32 31)).toInt32 = v
      have h2 : (v &&& 255) = nI (v.toBitVec.toNat &&& 255) := by
        apply Int32.toBitVec_inj.mp
        rw [Int32.toBitVec_and]
        apply BitVec.eq_of_toNat_eq
        have h255 : v.toBitVec.toNat &&& 255 ≤ 255 := Nat.and_le_right
        rw [BitVec.toNat_and, pk_tn (by omega)]
        rfl
      have h255 : v.toBitVec.toNat &&& 255 ≤ 255 := Nat.and_le_right
      rw [h2]
      exact ⟨nI_pos' (by omega), nI_le (b := 255) h255 (by omega)⟩
    · rw [upd_ne e]; exact hf j)
abbrev B01 (f : DD) : Prop := ∀ j, f j = 0 ∨ f j = 1
theorem b01_upd {f : DD} {k : Nat} {v : Int32} (h : B01 f) (hv : v = 0 ∨ v = 1) : B01 (upd f k v) := fun j => by
  by_cases e : j = k
  · rw [e, upd_eq]; exact hv
  · rw [upd_ne e]; exact h j
theorem b01_sheet {isn : DD} {x s n : Int32} (h : B01 isn) : B01 (D_sheet4 isn x s n) := by
  unfold D_sheet4
  split
  · intro j
    rw [fillF_eq]
    split
    · exact Or.inr rfl
    · exact h j
  · exact h
theorem b01_mark {so sz isn : DD} {x p v : Int32} (h : B01 isn) : B01 (D_mark1 so sz isn x p v) := by
  unfold D_mark1
  split
  · refine b01_upd h ?_
    split
    · exact Or.inl rfl
    · exact Or.inr rfl
  · exact h
theorem b01_copy {so sz isn : DD} {f p t q m : Int32} (h : B01 isn) : B01 (D_copy so sz isn f p t q m) := by
  unfold D_copy
  split
  · intro j
    rw [cpyF_eq]
    split
    · exact h _
    · exact h j
  · exact h
theorem sz_of {so sz nu isn : DD} {pl : Nat → DD} (h : ShOK so sz pl nu isn) : SzOK sz := fun k hk => (h k hk).2.1
theorem ss_of {kd st co he nu rl sh si sk ss sn sb : DD} {rp : Nat → DD} (h : SlOK kd st co he nu rl rp sh si sk ss sn sb) : ∀ k, k < 5 → sh k = 2 → ∃ m, m ≤ 24 ∧ ss k = nI m := fun k hk e => ((h k hk).2.2 e).1
