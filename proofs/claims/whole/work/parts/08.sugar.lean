def isNest (w : Cond) : Bool := match w with
  | .fieldLinkNest .. => true
  | .methodLinkNest .. => true
  | _ => false
theorem nest_tab {w : Cond} (h : isNest w = true) : w.onTables = true := by
  cases w <;> first | rfl | (exact absurd h (by decide)) | (simp [isNest] at h)
theorem nest_warm {w : Cond} (h : isNest w = true) {s U : State} (hW : s.WarmedH U.vm) (hZ : va_Nw w s) : va_Nw w U := by
  cases w <;> first | exact va_Nw.warmF hW hZ | exact va_Nw.warmM hW hZ | (simp [isNest] at h)
abbrev GG : Type := va_G × (Nat → ClassId) × (Nat → Nat)
abbrev tysG (g : GG) : List (ClassId × FieldType) := [(g.2.1 0, .int), (g.2.1 1, .boolean), (g.2.1 2, .object "CoalHoles$Sheet"), (g.2.1 3, .object "CoalHoles$Slot"), (g.2.1 4, .object "CoalHoles$Text")]
def frF : Nat → Int32 := fun k => match k with | 0 => 10 | 1 => 20 | _ => 0
def buF : Nat → Int32 := fun k => match k with | 0 => 5 | 1 => 3 | 2 => 10 | 3 => 4 | 4 => 6 | _ => 0
def abF : Nat → Int32 := fun k => match k with | 0 => -1 | 1 => 0 | 2 => 0 | 3 => 1 | 4 => 2 | _ => 0
def mrF : Nat → Int32 := fun k => match k with | 0 => 99 | 1 => 99 | _ => 100
def stLen : List Nat := [6, 4, 2, 2]
def stByt : List (List Int32) := [[115, 112, 99, 110, 111, 107], [115, 112, 99, 110], [111, 107], [115, 99]]
/-- a static array that is there from the start, outside the world -/
def StA (n : String) (t N : Nat) (f : Nat → Int32) (A : Nat → Prop) (U : State) (H : Heap) : Prop := va_Z "CoalHoles" n "[I" (.ref t) A U H ∧ va_T .int t N (fun j => .int (f j)) A U H
def frC (g : GG) (A : Nat → Prop) (H : Heap) : Prop := ∃ cell : Cell, H[g.2.2 0]? = some cell ∧ cell.cls = g.2.1 0 ∧ cell.vm.isStatics = false ∧ cell.vm ≠ .unknown ∧ cell.slots = (vp_cell (g.2.1 0) (3, .inl frF)).slots ∧ ¬ A (g.2.2 0)
def Gl (g : GG) (A : Nat → Prop) (U : State) (H : Heap) : Prop :=
  (∀ w ∈ lw_tbl, isNest w = true → va_Nw w U) ∧ va_Nw (.castable "[I" "java/lang/Cloneable") U ∧
  (va_AO "CoalHoles$Sheet" U ∧ va_AO "CoalHoles$Slot" U ∧ va_AO "CoalHoles$Text" U) ∧
  (StA "FIRST_RULES" (g.2.2 0) 3 frF A U H ∧ frC g A H) ∧ StA "BURNS" (g.2.2 1) 6 buF A U H ∧ StA "ABOVE" (g.2.2 2) 6 abF A U H ∧ StA "MOST_RULES" (g.2.2 3) 3 mrF A U H ∧
  va_Z "java/lang/String" "COMPACT_STRINGS" "Z" (.int 1) A U H ∧
  (vk_R "CoalHoles$Laws" 17 "spcnok" (g.2.2 10) U ∧ vk_R "CoalHoles$Reader" 94 "spcnok" (g.2.2 10) U ∧ vk_R "CoalHoles$Reader" 121 "spcn" (g.2.2 11) U ∧ vk_R "CoalHoles$Reader" 123 "ok" (g.2.2 12) U ∧ vk_R "CoalHoles$Reader" 125 "sc" (g.2.2 13) U) ∧
  vk_S 4 stLen stByt (fun i => g.2.2 (10 + i)) (fun i => g.2.2 (20 + i)) A U H
theorem StA.moved {n : String} {t N : Nat} {f : Nat → Int32} {A B : Nat → Prop} {u U : State} {H H1 : Heap} (hvm : u.vm.Alike U.vm) (hq : ∀ a : Nat, a < H.size → ¬ A a → H1[a]? = H[a]?) (hAB : ∀ q, B q → A q) (h : StA n t N f A u H) : StA n t N f B U H1 :=
  ⟨((h.1.moved hvm).kept hq).narrow hAB, ((h.2.moved hvm).kept hq).narrow hAB⟩
theorem frC.moved {g : GG} {A B : Nat → Prop} {H H1 : Heap} (hq : ∀ a : Nat, a < H.size → ¬ A a → H1[a]? = H[a]?) (hAB : ∀ q, B q → A q) (h : frC g A H) : frC g B H1 := by
  obtain ⟨cell, h1, h2, h3, h4, h5, h6⟩ := h
  exact ⟨cell, by rw [hq _ (Array.getElem?_eq_some_iff.mp h1).1 h6]; exact h1, h2, h3, h4, h5, fun z => h6 (hAB _ z)⟩
theorem va_Nw.warmC' {C T : String} {s U : State} (hW : s.WarmedH U.vm) (hZ : va_Nw (.castable C T) s) : va_Nw (.castable C T) U := va_Nw.warmC hW hZ
theorem Gl.warm {g : GG} {A B : Nat → Prop} {s U : State} {H H1 : Heap} (hW : s.WarmedH U.vm) (hq : ∀ a : Nat, a < H.size → ¬ A a → H1[a]? = H[a]?) (hAB : ∀ q, B q → A q) (h : Gl g A s H) : Gl g B U H1 := by
  have hvm := hW.alike
  obtain ⟨h1, h2, ⟨h3, h4, h5⟩, ⟨h6, h6'⟩, h7, h8, h9, h10, ⟨k1, k2, k3, k4, k5⟩, h11⟩ := h
  exact ⟨fun w hw hn => nest_warm hn hW (h1 w hw hn), va_Nw.warmC hW h2, ⟨h3.moved hvm, h4.moved hvm, h5.moved hvm⟩, ⟨h6.moved hvm hq hAB, h6'.moved hq hAB⟩, h7.moved hvm hq hAB, h8.moved hvm hq hAB, h9.moved hvm hq hAB, ((h10.moved hvm).kept hq).narrow hAB, ⟨k1.warm hW, k2.warm hW, k3.warm hW, k4.warm hW, k5.warm hW⟩, ((h11.moved hvm).kept hq).narrow hAB⟩
theorem Gl.same {g : GG} {A : Nat → Prop} {s U : State} {H : Heap} (hv : s.vm = U.vm) (h : Gl g A s H) : Gl g A U H := by
  have hvm : s.vm.Alike U.vm := by rw [hv]; exact Vm.Alike.refl _
  have hq : ∀ a : Nat, a < H.size → ¬ A a → H[a]? = H[a]? := fun _ _ _ => rfl
  have hAB : ∀ q, A q → A q := fun _ h => h
  obtain ⟨h1, h2, ⟨h3, h4, h5⟩, ⟨h6, h6'⟩, h7, h8, h9, h10, ⟨k1, k2, k3, k4, k5⟩, h11⟩ := h
  exact ⟨fun w hw hn => va_Nw.same (nest_tab hn) hv (h1 w hw hn), va_Nw.same rfl hv h2, ⟨h3.moved hvm, h4.moved hvm, h5.moved hvm⟩, ⟨h6.moved hvm hq hAB, h6'⟩, h7.moved hvm hq hAB, h8.moved hvm hq hAB, h9.moved hvm hq hAB, h10.moved hvm, ⟨k1.same hv.symm, k2.same hv.symm, k3.same hv.symm, k4.same hv.symm, k5.same hv.symm⟩, h11.moved hvm⟩
/-! blocks: a world is the flattening of a list of blocks -/
abbrev BW : Type := List va_W
theorem va_P_iff {D : va_G} {cl : List vw_C} {ws : va_W} {H : Heap} : va_P D cl ws H ↔ ∀ q ∈ ws, va_at D cl q H :=
  ⟨fun h q hq => by obtain ⟨k, hk⟩ := List.getElem?_of_mem hq; exact h k q hk, fun h k q hk => h q (List.mem_of_getElem? hk)⟩
theorem va_D_iff {A : Nat → Prop} {ws : va_W} : va_D A ws ↔ (ws.map Prod.fst).Nodup ∧ ∀ q ∈ ws, A q.1 := by
  constructor
  · intro h
    refine ⟨?_, fun q hq => by obtain ⟨k, hk⟩ := List.getElem?_of_mem hq; exact h.2 k q hk⟩
    rw [List.nodup_iff_pairwise_ne, List.pairwise_iff_getElem]
    intro i j hi hj hij he
    rw [List.getElem_map, List.getElem_map] at he
    have := h.1 i j _ _ (List.getElem?_eq_getElem (by simpa using hi)) (List.getElem?_eq_getElem (by simpa using hj)) he
    omega
  · intro ⟨h1, h2⟩
    refine ⟨fun i j p q hp hq he => ?_, fun k q hk => h2 q (List.mem_of_getElem? hk)⟩
    rw [List.nodup_iff_pairwise_ne, List.pairwise_iff_getElem] at h1
    obtain ⟨hi, rfl⟩ := List.getElem?_eq_some_iff.mp hp
    obtain ⟨hj, rfl⟩ := List.getElem?_eq_some_iff.mp hq
    rcases Nat.lt_trichotomy i j with h | h | h
    · exact absurd (by rw [List.getElem_map, List.getElem_map]; exact he) (h1 i j (by simpa using hi) (by simpa using hj) h)
    · exact h
    · exact absurd (by rw [List.getElem_map, List.getElem_map]; exact he.symm) (h1 j i (by simpa using hj) (by simpa using hi) h)
theorem va_P_perm {D : va_G} {cl : List vw_C} {w1 w2 : va_W} {H : Heap} (hp : w1.Perm w2) (h : va_P D cl w1 H) : va_P D cl w2 H := va_P_iff.mpr fun q hq => va_P_iff.mp h q (hp.mem_iff.mpr hq)
theorem va_D_perm {A : Nat → Prop} {w1 w2 : va_W} (hp : w1.Perm w2) (h : va_D A w1) : va_D A w2 := by
  obtain ⟨h1, h2⟩ := va_D_iff.mp h
  exact va_D_iff.mpr ⟨(hp.map _).nodup_iff.mp h1, fun q hq => h2 q (hp.mem_iff.mpr hq)⟩
/-- blocks at places put anew -/
def bset : BW → List Nat → BW → BW
  | bs, i :: is, b :: ns => bset (bs.set i b) is ns
  | bs, _, _ => bs
def hole : BW → List Nat → BW
  | bs, [] => bs
  | bs, i :: is => hole (bs.set i []) is
theorem hole_set {i : Nat} {b : va_W} : ∀ (is : List Nat) (bs : BW), i ∉ is → hole (bs.set i b) is = (hole bs is).set i b
  | [], _, _ => rfl
  | j :: is, bs, h => by
    have hij : i ≠ j := fun e => h (by rw [e]; exact List.mem_cons_self)
    show hole ((bs.set i b).set j []) is = (hole (bs.set j []) is).set i b
    rw [List.set_comm _ _ hij, hole_set is _ (fun z => h (List.mem_cons_of_mem _ z))]
theorem flat_set_perm {b : va_W} : ∀ (bs : BW) (i : Nat), i < bs.length → ((bs.set i b).flatten).Perm (b ++ (bs.set i []).flatten)
  | [], _, h => absurd h (Nat.not_lt_zero _)
  | x :: bs, 0, _ => by simp
  | x :: bs, i + 1, h => by
    show (x ++ (bs.set i b).flatten).Perm (b ++ (x ++ (bs.set i []).flatten))
    have ih := flat_set_perm (b := b) bs i (by simpa using h)
    refine (List.Perm.append_left x ih).trans ?_
    rw [← List.append_assoc, ← List.append_assoc]
    exact List.Perm.append_right _ List.perm_append_comm
theorem hole_length : ∀ (is : List Nat) (bs : BW), (hole bs is).length = bs.length
  | [], _ => rfl
  | i :: is, bs => by rw [hole, hole_length is]; simp
theorem hole_get {i : Nat} : ∀ (is : List Nat) (bs : BW), i ∉ is → (hole bs is)[i]? = bs[i]?
  | [], _, _ => rfl
  | j :: is, bs, h => by
    rw [hole, hole_get is _ (fun z => h (List.mem_cons_of_mem _ z)), List.getElem?_set_ne (fun e => h (by rw [e]; exact List.mem_cons_self))]
theorem set_self {bs : BW} {i : Nat} {b : va_W} (h : bs[i]? = some b) : bs.set i b = bs := by
  obtain ⟨hi, rfl⟩ := List.getElem?_eq_some_iff.mp h
  simp
theorem hole_perm : ∀ (is : List Nat) (bs wc : BW), is.Nodup → is.map (fun i => bs[i]?) = wc.map some → bs.flatten.Perm (wc.flatten ++ (hole bs is).flatten)
  | [], bs, wc, _, h => by
    cases wc with
    | nil => simp [hole]
    | cons => simp at h
  | i :: is, bs, wc, hn, h => by
    cases wc with
    | nil => simp at h
    | cons b wc =>
      simp only [List.map_cons, List.cons.injEq] at h
      have hn' := List.nodup_cons.mp hn
      have h2 : is.map (fun j => (bs.set i [])[j]?) = wc.map some := by
        rw [← h.2]
        refine List.map_congr_left fun j hj => ?_
        rw [List.getElem?_set_ne (fun e => hn'.1 (by rw [e]; exact hj))]
      have ih := hole_perm is (bs.set i []) wc hn'.2 h2
      have h3 := flat_set_perm (b := b) bs i (List.getElem?_eq_some_iff.mp h.1).1
      rw [set_self h.1] at h3
      refine h3.trans ?_
      rw [hole, List.flatten_cons, List.append_assoc]
      exact List.Perm.append_left _ ih
theorem bset_perm : ∀ (is : List Nat) (bs nw : BW), is.Nodup → is.length = nw.length → (∀ i ∈ is, i < bs.length) → (bset bs is nw).flatten.Perm (nw.flatten ++ (hole bs is).flatten)
  | [], bs, nw, _, h, _ => by
    cases nw with
    | nil => simp [hole, bset]
    | cons => simp at h
  | i :: is, bs, nw, hn, h, hlt => by
    cases nw with
    | nil => simp at h
    | cons b nw =>
      have hn' := List.nodup_cons.mp hn
      have ih := bset_perm is (bs.set i b) nw hn'.2 (by simpa using h) (fun j hj => by simpa using hlt j (List.mem_cons_of_mem _ hj))
      show (bset (bs.set i b) is nw).flatten.Perm _
      refine ih.trans ?_
      rw [hole_set is bs hn'.1]
      have h3 := flat_set_perm (b := b) (hole bs is) i (by rw [hole_length]; exact hlt i List.mem_cons_self)
      rw [hole, hole_set is bs hn'.1, List.flatten_cons, List.append_assoc]
      refine (List.Perm.append_left _ h3).trans ?_
      rw [← List.append_assoc, ← List.append_assoc]
      exact List.Perm.append_right _ List.perm_append_comm
/-- one cell in a block of its own: its place in the whole, and what setting it does -/
theorem flat_at {x : Nat × va_E} : ∀ (bs : BW) (i : Nat), bs[i]? = some [x] → ∃ q : Nat, bs.flatten[q]? = some x ∧ ∀ y, bs.flatten.set q y = (bs.set i [y]).flatten
  | [], i, h => by simp at h
  | b :: bs, 0, h => by
    simp at h
    subst h
    exact ⟨0, by simp, fun y => by simp⟩
  | b :: bs, i + 1, h => by
    obtain ⟨q, h1, h2⟩ := flat_at bs i (by simpa using h)
    refine ⟨b.length + q, ?_, fun y => ?_⟩
    · rw [List.flatten_cons, List.getElem?_append_right (by omega)]
      simpa using h1
    · rw [List.set_cons_succ, List.flatten_cons, List.flatten_cons, ← h2 y, List.set_append_right _ _ (by omega)]
      simp
/-- the world: tables, cells, apart, what has changed since the method's start, the statics -/
def WD (g : GG) (A : Nat → Prop) (s : State) (H : Heap) (locs : List Loc) (bs : BW) : Prop :=
  va_K g.1 vwCl (tysG g) s ∧ va_P g.1 vwCl bs.flatten H ∧ va_D A bs.flatten ∧ va_S A s.heap H locs ∧ (∀ q, s.heap.size ≤ q → A q) ∧ Gl g A s s.heap
theorem WD.re {g : GG} {A : Nat → Prop} {s : State} {H : Heap} {locs : List Loc} {bs bs' : BW} (h : WD g A s H locs bs) (he : bs.flatten = bs'.flatten) : WD g A s H locs bs' := by
  unfold WD at *
  rw [← he]
  exact h
