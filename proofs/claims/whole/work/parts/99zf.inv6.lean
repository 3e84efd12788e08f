theorem sl_lay {d so sz nu isn kd st co he nn rl sh si sk ss sn sb : DD} {pl rp : Nat → DD} {x t k : Int32} (hI : InvH d) (hsh : ShOK so sz pl nu isn) (h : SlOK kd st co he nn rl rp sh si sk ss sn sb) : SlOK (L_h d so kd 0 x t k) (L_h d so st 1 x t k) (L_h d so co 3 x t k) (L_h d so he 4 x t k) (L_n d so nn x t k) (L_r d so rl sz x t k) (L_p d so rp pl x t k) (D_lay1 d so sh x t k) (D_lay3 d so si x t k) (D_lay2 d so sk x t k) (D_lay4 d so sz ss x t k) (D_lay5 d so nu sn x t k) (D_lay5 d so isn sb x t k) := by
  unfold L_h L_n L_r L_p D_lay1 D_lay2 D_lay3 D_lay4 D_lay5
  by_cases ho : okLay d so x t k
  · intro s hs
    by_cases h1 : t = 1
    · have h2 : ¬ t = 2 := by rw [h1]; decide
      simp only [if_pos (show (okLay d so x t k ∧ t = 1) from ⟨ho, h1⟩), if_neg (show ¬ (okLay d so x t k ∧ t = 2) from fun z => h2 z.2), if_neg (show ¬ (okLay d so x t k ∧ ¬ t = 1 ∧ ¬ t = 2) from fun z => z.2.1 h1), if_pos (show (okLay d so x t k ∧ ¬ t = 2) from ⟨ho, h2⟩), if_pos ho, if_pos h1]
      by_cases e : s = x.toNatClampNeg
      · rw [← e]
        simp only [upd_eq]
        exact ⟨fun _ => ⟨inv_at hI _ 0 (by omega), trivial, trivial⟩, fun z => absurd (h1.symm.trans z) (by decide), fun z => absurd z h2⟩
      · simp only [upd_ne e]
        exact h s hs
    · by_cases h2 : t = 2
      · simp only [if_neg (show ¬ (okLay d so x t k ∧ t = 1) from fun z => h1 z.2), if_pos (show (okLay d so x t k ∧ t = 2) from ⟨ho, h2⟩), if_neg (show ¬ (okLay d so x t k ∧ ¬ t = 1 ∧ ¬ t = 2) from fun z => z.2.2 h2), if_neg (show ¬ (okLay d so x t k ∧ ¬ t = 2) from fun z => z.2 h2), if_pos ho]
        have hk : isS k := Classical.byContradiction (fun z => ho.1 (Or.inr (Or.inr (Or.inr ⟨h2, z⟩))))
        have hk4 := isS_nat hk
        have hs0 : ¬ so k.toNatClampNeg < 0 := fun z => ho.2 ⟨h2, z⟩
        by_cases e : s = x.toNatClampNeg
        · rw [← e]
          simp only [upd_eq, updP_eq]
          refine ⟨fun z => absurd z h1, fun z => absurd (h2.symm.trans z) (by decide), fun _ => ⟨(hsh _ hk4).2.1, trivial, fun i hi => ?_⟩⟩
          rw [rowF_eq, rowF_eq, if_pos (by omega), if_pos (by omega), Nat.add_sub_cancel_left]
          exact (hsh _ hk4).2.2 hs0 i hi
        · simp only [upd_ne e, updP_ne e]
          refine ⟨(h s hs).1, (h s hs).2.1, fun z => ⟨((h s hs).2.2 z).1, ((h s hs).2.2 z).2.1, fun i hi => ?_⟩⟩
          rw [rowF_eq, rowF_eq, if_neg (by omega), if_neg (by omega)]
          exact ((h s hs).2.2 z).2.2 i hi
      · simp only [if_neg (show ¬ (okLay d so x t k ∧ t = 1) from fun z => h1 z.2), if_neg (show ¬ (okLay d so x t k ∧ t = 2) from fun z => h2 z.2), if_pos (show (okLay d so x t k ∧ ¬ t = 1 ∧ ¬ t = 2) from ⟨ho, h1, h2⟩), if_pos (show (okLay d so x t k ∧ ¬ t = 2) from ⟨ho, h2⟩), if_pos ho, if_neg h1]
        by_cases e : s = x.toNatClampNeg
        · rw [← e]
          simp only [upd_eq]
          exact ⟨fun z => absurd z h1, fun _ => trivial, fun z => absurd z h2⟩
        · simp only [upd_ne e]
          exact h s hs
  · simp only [if_neg ho, if_neg (show ¬ (okLay d so x t k ∧ t = 1) from fun z => ho z.1), if_neg (show ¬ (okLay d so x t k ∧ t = 2) from fun z => ho z.1), if_neg (show ¬ (okLay d so x t k ∧ ¬ t = 1 ∧ ¬ t = 2) from fun z => ho z.1), if_neg (show ¬ (okLay d so x t k ∧ ¬ t = 2) from fun z => ho z.1)]
    exact h
