/-! the start: classes, arrays, statics, strings -/
theorem st_arr {s : State} {ty : FieldType} {args : Array Value} (h : (Cond.arrayClass ty).before args s = true) : ∃ c : ClassId, s.vm.findClass ("[" ++ ty.toString) = some c ∧ ArrOfT s c ty := by
  obtain ⟨c, k, comp, h1, h2, h3⟩ := Cond.arrayClass_spec (args := args) (first := s) (o := none) (s := s) (idx := []) h
  exact ⟨c, h1, fun N z => ⟨(fun k h => by cases h), k, h2, comp, h3⟩⟩
theorem st_aro {s : State} {C : String} {args : Array Value} (h : (Cond.arrayOver (.object C)).before args s = true) : ∃ c : ClassId, ArrOfT s c (.object C) ∧ va_RA s c (.object C) := by
  obtain ⟨comp, c, k, h1, h2, h3, h4, h5⟩ := Cond.arrayOver_spec (args := args) (first := s) (o := none) (s := s) (idx := []) h
  exact ⟨c, fun N z => ⟨(fun k h => by cases h), k, h3, comp, h4⟩, k, comp, h3, h4, h1, h5⟩
theorem st_K {s : State} {args : Array Value} (hts : ∀ w ∈ lw_tbl, w.before args s = true) : ∃ (dC : Nat → ClassId) (dI : Nat → Nat → Nat), ∀ (k : Nat) (q : vw_C), vwCl[k]? = some q → u_Kn s q.1 q.2.1 q.2.2 (dC k) (dI k) := by
  have hg : ∀ w ∈ gw, w.before args s = true := fun w hw => hts w (List.mem_filter.mp hw).1
  obtain ⟨c0, i0, k0⟩ := u_known (C := RX0) (T := TX0) (N := 3) (n := 3) hg fb0.2.1 (hg _ q105)
  obtain ⟨c1, i1, k1⟩ := u_known (C := RX1) (T := TX1) (N := 8) (n := 8) hg fb1.2.1 (hg _ q218)
  obtain ⟨c2, i2, k2⟩ := u_known (C := RX2) (T := TX2) (N := 3) (n := 3) hg fb2.2.1 (hg _ q253)
  obtain ⟨c3, i3, k3⟩ := u_known (C := RX3) (T := TX3) (N := 7) (n := 7) hg fb3.2.1 (hg _ q271)
  obtain ⟨c4, i4, k4⟩ := u_known (C := RX4) (T := TX4) (N := 15) (n := 15) hg fb4.2.1 (hg _ q139)
  obtain ⟨c5, i5, k5⟩ := u_known (C := RX5) (T := TX5) (N := 3) (n := 3) hg fb5.2.1 (hg _ q389)
  obtain ⟨c6, i6, k6⟩ := u_known (C := RX6) (T := TX6) (N := 13) (n := 13) hg fb6.2.1 (hg _ q97)
  obtain ⟨c7, i7, k7⟩ := u_known (C := RX7) (T := TX7) (N := 39) (n := 39) hg fb7.2.1 (hg _ q916)
  refine ⟨fun k => match k with | 0 => c0 | 1 => c1 | 2 => c2 | 3 => c3 | 4 => c4 | 5 => c5 | 6 => c6 | _ => c7, fun k => match k with | 0 => i0 | 1 => i1 | 2 => i2 | 3 => i3 | 4 => i4 | 5 => i5 | 6 => i6 | _ => i7, ?_⟩
  intro k q hq
  match k, hq with
  | 0, hq => cases hq; exact k0
  | 1, hq => cases hq; exact k1
  | 2, hq => cases hq; exact k2
  | 3, hq => cases hq; exact k3
  | 4, hq => cases hq; exact k4
  | 5, hq => cases hq; exact k5
  | 6, hq => cases hq; exact k6
  | 7, hq => cases hq; exact k7
  | k + 8, hq => exact absurd hq (by simp [vwCl])
theorem st_G {s : State} {args : Array Value} {A : Nat → Prop} (hA : ∀ a : Nat, a < s.heap.size → ¬ A a) (hts : ∀ w ∈ lw_tbl, w.before args s = true) (hgv : (Jvm.Cond.and given_1 narrow_1).before args s = true) : ∃ g : GG, va_K g.1 vwCl (tysG g) s ∧ Gl g A s s.heap := by
  have hg : ∀ w ∈ gw, w.before args s = true := fun w hw => hts w (List.mem_filter.mp hw).1
  have hs := flat_of_before _ hgv
  obtain ⟨dC, dI, hK⟩ := st_K hts
  obtain ⟨cI, fI, aI⟩ := st_arr (hg _ q137)
  obtain ⟨cZ, fZ, aZ⟩ := st_arr (hg _ q1039)
  obtain ⟨c2, a2, r2⟩ := st_aro (hts _ q250)
  obtain ⟨c3, a3, r3⟩ := st_aro (hts _ q252)
  obtain ⟨c4, a4, r4⟩ := st_aro (hts _ q111)
  obtain ⟨t0, e0, s0⟩ := st_A (n := "FIRST_RULES") (N := 3) (f := frF) hA (by decide) (hts _ q145) (hg _ q79) (hs _ st_ok0.1) (hs _ st_ok0.2.1) (fun j hj => hs _ (st_ok0.2.2 j hj))
  obtain ⟨t1, e1, s1⟩ := st_A (n := "BURNS") (N := 6) (f := buF) hA (by decide) (hts _ q428) (hg _ q79) (hs _ st_ok1.1) (hs _ st_ok1.2.1) (fun j hj => hs _ (st_ok1.2.2 j hj))
  obtain ⟨t2, e2, s2⟩ := st_A (n := "ABOVE") (N := 6) (f := abF) hA (by decide) (hts _ q440) (hg _ q79) (hs _ st_ok2.1) (hs _ st_ok2.2.1) (fun j hj => hs _ (st_ok2.2.2 j hj))
  obtain ⟨t3, e3, s3⟩ := st_A (n := "MOST_RULES") (N := 3) (f := mrF) hA (by decide) (hts _ q458) (hg _ q79) (hs _ st_ok3.1) (hs _ st_ok3.2.1) (fun j hj => hs _ (st_ok3.2.2 j hj))
  have hfr := st_fr hA (c := cI) fI e0 (hs _ st_xfr) (hs _ st_ok0.2.1) s0.2
  obtain ⟨adK, adV, hS, hE⟩ := vk_Sof (A := A) (N := 4) (tm := st_tm) (len := stLen) (byt := stByt) st_lt (fun i hi => hs _ (st_hex i hi)) (fun i hi => hs _ (st_hco i hi)) (fun i hi => hs _ (st_har i hi)) (fun i hi => hs _ (st_hle i hi)) (fun i hi j hj => hs _ (st_hel i hi j hj)) (fun i j hi hj hij => (st_hne i hi j hj hij).elim (fun h => Or.inl (hs _ h)) (fun h => Or.inr (hs _ h))) hA
  obtain ⟨f, z0, z1, z2, z3, zK, zV⟩ : ∃ f : Nat → Nat, f 0 = t0 ∧ f 1 = t1 ∧ f 2 = t2 ∧ f 3 = t3 ∧ (∀ i, i < 4 → f (10 + i) = adK i) ∧ (∀ i, i < 4 → f (20 + i) = adV i) := by
    refine ⟨fun k => if k = 0 then t0 else if k = 1 then t1 else if k = 2 then t2 else if k = 3 then t3 else if k < 20 then adK (k - 10) else adV (k - 20), rfl, rfl, rfl, rfl, fun i hi => ?_, fun i hi => ?_⟩
    · show (if 10 + i = 0 then t0 else if 10 + i = 1 then t1 else if 10 + i = 2 then t2 else if 10 + i = 3 then t3 else if 10 + i < 20 then adK (10 + i - 10) else adV (10 + i - 20)) = adK i
      rw [if_neg (by omega), if_neg (by omega), if_neg (by omega), if_neg (by omega), if_pos (by omega), show 10 + i - 10 = i by omega]
    · show (if 20 + i = 0 then t0 else if 20 + i = 1 then t1 else if 20 + i = 2 then t2 else if 20 + i = 3 then t3 else if 20 + i < 20 then adK (20 + i - 10) else adV (20 + i - 20)) = adV i
      rw [if_neg (by omega), if_neg (by omega), if_neg (by omega), if_neg (by omega), if_neg (by omega), show 20 + i - 20 = i by omega]
  have hS' : vk_S 4 stLen stByt (fun i => f (10 + i)) (fun i => f (20 + i)) A s s.heap := by
    refine ⟨fun i hi => ?_, fun i j hi hj he => ?_⟩
    · have h := hS.1 i hi
      rw [← zK i hi, ← zV i hi] at h
      exact h
    · have he : f (10 + i) = f (10 + j) := he
      rw [zK i hi, zK j hj] at he
      exact hS.2 i j hi hj he
  subst z0 z1 z2 z3
  have hE0 : (Term.string "CoalHoles$Laws" 17).eval args s none [] s = some (.ref (f 10)) := by rw [zK 0 (by decide)]; exact hE 0 (by decide)
  have hE1 : (Term.string "CoalHoles$Reader" 121).eval args s none [] s = some (.ref (f 11)) := by rw [zK 1 (by decide)]; exact hE 1 (by decide)
  have hE2 : (Term.string "CoalHoles$Reader" 123).eval args s none [] s = some (.ref (f 12)) := by rw [zK 2 (by decide)]; exact hE 2 (by decide)
  have hE3 : (Term.string "CoalHoles$Reader" 125).eval args s none [] s = some (.ref (f 13)) := by rw [zK 3 (by decide)]; exact hE 3 (by decide)
  refine ⟨((dC, dI), (fun k => match k with | 0 => cI | 1 => cZ | 2 => c2 | 3 => c3 | _ => c4), f), ⟨hK, ?_⟩, fun w hw hn => va_Nw.of (nest_tab hn) (hts w hw), va_Nw.of rfl (hts _ q151), ⟨va_AO.of (hts _ q250), va_AO.of (hts _ q252), va_AO.of (hts _ q111)⟩, ⟨s0, hfr⟩, s1, s2, s3, va_Zof (hts _ q122) (hg _ q81) (va_eqt (hs _ st_cs)) hA, ⟨vk_R.of (hts _ q112) hE0, vk_R.of (hts _ q756) (st_eq (hs _ st_eq94) hE0), vk_R.of (hts _ q680) hE1, vk_R.of (hts _ q681) hE2, vk_R.of (hts _ q682) hE3⟩, hS'⟩
  intro k q hq
  match k, hq with
  | 0, hq => cases hq; exact ⟨aI, fI⟩
  | 1, hq => cases hq; exact ⟨aZ, fZ⟩
  | 2, hq => cases hq; exact ⟨a2, r2⟩
  | 3, hq => cases hq; exact ⟨a3, r3⟩
  | 4, hq => cases hq; exact ⟨a4, r4⟩
  | k + 5, hq => exact absurd hq (by simp)
