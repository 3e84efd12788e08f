theorem sg_big {s : Int32} (h : isSgn s) : ¬ (20000 + s : Int32) < 20000 := by
  rcases h with y | y | y | y | y | y | y | y | y <;> rw [y] <;> decide
theorem xm_same {ky x : Int32} (h1 : ¬ x = 10000) (h2 : ¬ x = 10001) : xm ky x = x := by
  unfold xm
  simp only [if_neg h1, if_neg h2, ite_self]
theorem xm_big {ky x : Int32} (h : ¬ x < 20000) : xm ky x = x :=
  xm_same (fun z => h (by rw [z]; decide)) (fun z => h (by rw [z]; decide))
theorem xm_low {ky x : Int32} (h : x < 10000) : xm ky x = x :=
  xm_same (fun z => absurd h (by rw [z]; decide)) (fun z => absurd h (by rw [z]; decide))
theorem mapC_low {f h : Int32 → Int32} {ky x : Int32} (hx : x < 10000) : mapC f h x (xm ky x) := Or.inl ⟨xm_low hx, fun z => absurd hx z⟩
theorem mapC_big {f h : Int32 → Int32} {ky x : Int32} (hx : ¬ x < 20000) : mapC f h x (xm ky x) := Or.inl ⟨xm_big hx, fun _ z => absurd z hx⟩
theorem xm_fee {x a b : Int32} (h : cOK 1 x) : mapC (nmF a b 0 0) (nmE a b) x (xm 1 x) := by
  rcases h with z | ⟨j, hj, z⟩ | z | ⟨s, hs, z⟩
  · exact mapC_low z
  · have hj2 : j < 2 := hj
    rcases (show j = 0 ∨ j = 1 by omega) with y | y <;> subst y <;> subst z
    · exact Or.inr ⟨by decide, by decide, by decide, by decide, rfl⟩
    · exact Or.inr ⟨by decide, by decide, by decide, by decide, rfl⟩
  · exact mapC_big (by rw [z]; decide)
  · exact mapC_big (by rw [z]; exact sg_big hs)
theorem xm_fine {x a b : Int32} (h : cOK 2 x) : mapC (nmF a b 0 0) (nmG a b) x (xm 2 x) := by
  rcases h with z | ⟨j, hj, z⟩ | z | ⟨s, hs, z⟩
  · exact mapC_low z
  · have hj2 : j < 2 := hj
    rcases (show j = 0 ∨ j = 1 by omega) with y | y <;> subst y <;> subst z
    · exact Or.inr ⟨by decide, by decide, by decide, by decide, rfl⟩
    · exact Or.inr ⟨by decide, by decide, by decide, by decide, rfl⟩
  · exact mapC_big (by rw [z]; decide)
  · exact mapC_big (by rw [z]; exact sg_big hs)
theorem CR.at {tc : DD} {cs : List Int32} (h : CR tc cs) {k : Nat} (hk : k < cs.length) : tc k = cs[k] := h k _ (List.getElem?_eq_getElem hk)
theorem CR.atm {tx : DD} {cs : List Int32} {g : Int32 → Int32} (h : CR tx (cs.map g)) {k : Nat} (hk : k < cs.length) : tx k = g cs[k] := h k _ (by rw [List.getElem?_map, List.getElem?_eq_getElem hk]; rfl)
theorem eval_map {f h : Int32 → Int32} {tc tx : DD} {cs : List Int32} {ky : Int32} (hc : CR tc cs) (hx : CR tx (cs.map (xm ky))) (hm : ∀ x ∈ cs, mapC f h x (xm ky x)) : evalF h cs.length tx = evalF f cs.length tc := by
  unfold evalF
  rw [evst_map (f := f) (h := h) (tc := tc) (tx := tx) cs.length (fun i hi => by rw [hc.at hi, hx.atm hi]; exact hm _ (List.getElem_mem hi))]
theorem gd_map {ky : Int32} : ∀ (cs : List Int32) (n : Nat), gd (cs.map (xm ky)) n = gd cs n
  | [], _ => rfl
  | x :: cs, n => by
    show (if xm ky x < 20000 then gd (cs.map (xm ky)) (n + 1) else if xm ky x = 20033 then (if 1 ≤ n then gd (cs.map (xm ky)) n else none) else if 2 ≤ n then gd (cs.map (xm ky)) (n - 1) else none) = (if x < 20000 then gd cs (n + 1) else if x = 20033 then (if 1 ≤ n then gd cs n else none) else if 2 ≤ n then gd cs (n - 1) else none)
    rw [gd_map cs (n + 1), gd_map cs n, gd_map cs (n - 1)]
    by_cases h : x < 20000
    · have h2 : xm ky x < 20000 := by
        unfold xm
        split <;> (try split) <;> (try split) <;> first | exact h | decide
      rw [if_pos h, if_pos h2]
    · rw [xm_big h]
