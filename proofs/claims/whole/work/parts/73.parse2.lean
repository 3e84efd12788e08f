/-! what a reading method does -/
theorem nx_eq (tf : DD) (tp i : Nat) : lexF tf tp (atA tf tp i) (bwA tf tp i) = lxs tf tp (i + 1) := rfl
def pO (ad : Nat → Nat) (ik ky wt : Int32) (tf : DD) (tp o nn : Nat) (q : PS) : List Value := mF ad ik (nI tp) (nI (atA tf tp q.1)) (nI (bgA tf tp q.1)) (tkA tf tp q.1) (vaA tf tp q.1) (nI q.2.1.length) (nI q.2.2.1) ky (nI o) (nI nn) (if q.2.2.2 = true then 1 else 0) (nI (bwA tf tp q.1)) wt
def SbC (l : Launch) (g : GG) (y : MethodName) (cc : ByteArray) (nL K a : Nat) (ad : Nat → Nat) (ik ky wt : Int32) (tf : DD) (tp o nn : Nat) (N : Prop) (F : PS → PS) : Prop := ∀ (q : PS) (cf : DD), CR cf q.2.1 → okQ tf tp q → (q.2.2.2 = false → N) → Ct l g y cc nL none K 0 0 [.ref a] [bO a 7 (pO ad ik ky wt tf tp o nn q), bI g (ad 10) 96 tf, bI g (ad 23) 96 cf] (QV g (fun (u : DD) => CR u (F q).2.1) (fun u => [bO a 7 (pO ad ik ky wt tf tp o nn (F q)), bI g (ad 10) 96 tf, bI g (ad 23) 96 u]))
theorem okQ.gn {tf : DD} {tp : Nat} {q r : PS} (h : okQ tf tp q) (hg : Gn tf tp q r) : okQ tf tp r := fun z => by
  obtain ⟨a, b, c⟩ := hg z
  have := h a
  omega
theorem okQ.nx {tf : DD} {tp : Nat} {q : PS} (h : okQ tf tp q) (hs : tkA tf tp q.1 = 3) : okQ tf tp (nxF q) := fun z => by
  have h1 := h z
  have h2 := bg_lt (tf := tf) (tp := tp) (i := q.1) (by rw [hs]; decide)
  show q.2.1.length + 3 ≤ bgA tf tp (q.1 + 1)
  omega
theorem okQ.rm {tf : DD} {tp : Nat} {q r : PS} (h : okQ tf tp q) (hs : tkA tf tp q.1 = 3) (hg : Gn tf tp (nxF q) r) : r.2.2.2 = false → r.2.1.length + 4 ≤ bgA tf tp r.1 := fun z => by
  obtain ⟨a, b, c⟩ := hg z
  have h1 := h a
  have h2 := bg_lt (tf := tf) (tp := tp) (i := q.1) (by rw [hs]; decide)
  have e1 : (nxF q).1 = q.1 + 1 := rfl
  have e2 : (nxF q).2.1 = q.2.1 := rfl
  rw [e1, e2] at b
  omega
theorem okQ.go {tf : DD} {tp : Nat} {q r : PS} {may : Prop} [Decidable may] (h : okQ tf tp q) (hs : tkA tf tp q.1 = 3) (hg : Gn tf tp (goF may q) r) : r.2.2.2 = false → r.2.1.length + 4 ≤ bgA tf tp r.1 := fun z => by
  obtain ⟨a, b, c⟩ := hg z
  obtain ⟨x, y, w⟩ := gn_go (tf := tf) (tp := tp) (may := may) (fun _ => by rw [hs]; decide) a
  have h1 := h x
  rw [y] at b
  omega
theorem okQ.lay {tf : DD} {tp : Nat} {r : PS} {v : Int32} (h : r.2.2.2 = false → r.2.1.length + 4 ≤ bgA tf tp r.1) : okQ tf tp (layF v r) := fun z => by
  obtain ⟨h1, h2⟩ := lay_bad z
  have := h h1
  rw [h2]
  show (r.2.1 ++ [v]).length + 3 ≤ bgA tf tp r.1
  rw [List.length_append]
  show r.2.1.length + 1 + 3 ≤ _
  omega
theorem okQ.gm {tf : DD} {tp : Nat} {q : PS} {may : Prop} [Decidable may] (h : okQ tf tp q) (hs : tkA tf tp q.1 = 3) : okQ tf tp (goF may q) := fun z => by
  obtain ⟨x, y, w⟩ := gn_go (tf := tf) (tp := tp) (may := may) (fun _ => by rw [hs]; decide) z
  have h1 := h x
  rw [y]; omega
theorem rm_lt {tf : DD} {tp : Nat} {r : PS} (htp : tp ≤ 96) (h : r.2.2.2 = false → r.2.1.length + 4 ≤ bgA tf tp r.1) : r.2.2.2 = false → r.2.1.length < 96 := fun z => by
  have h1 := h z
  have h2 := bg_tp (tf := tf) (tp := tp) r.1
  omega
theorem loop_t {is : PS → Prop} [DecidablePred is] {sub : PS → PS} {cd : PS → Int32} {f : Nat} {q : PS} (h : is q) : loopF is sub cd (f + 1) q = loopF is sub cd f (layF (cd q) (sub (nxF q))) := if_pos h
theorem loop_f {is : PS → Prop} [DecidablePred is] {sub : PS → PS} {cd : PS → Int32} {f : Nat} {q : PS} (h : ¬ is q) : loopF is sub cd (f + 1) q = q := if_neg h
/-- the loop goes on: what is left of its turns -/
theorem fu_go {tf : DD} {tp : Nat} {q r : PS} {v : Int32} {fu : Nat} (htp : tp ≤ 96) (hs : tkA tf tp q.1 = 3) (hb : ¬ q.2.2.2 = true) (hg : Gn tf tp (nxF q) r) (h1 : q.2.2.2 = false → 96 < bgA tf tp q.1 + (fu + 1)) : 0 < fu ∧ ((layF v r).2.2.2 = false → 96 < bgA tf tp (layF v r).1 + fu) := by
  have hb' : q.2.2.2 = false := by simpa using hb
  have h2 := h1 hb'
  have h3 := bg_lt (tf := tf) (tp := tp) (i := q.1) (by rw [hs]; decide)
  have h4 := bg_tp (tf := tf) (tp := tp) (q.1 + 1)
  refine ⟨by omega, fun z => ?_⟩
  obtain ⟨a, b⟩ := lay_bad z
  obtain ⟨x, y, w⟩ := hg a
  have e1 : (nxF q).1 = q.1 + 1 := rfl
  rw [e1] at w
  rw [b]
  show 96 < bgA tf tp r.1 + fu
  omega
theorem cdA_of {tf : DD} {tp : Nat} {q : PS} {c : Int32} (h : vaA tf tp q.1 = c.toInt64) : cdA tf tp q = 20000 + c := by
  unfold cdA
  rw [h, Int32.toInt32_toInt64]
