/-! the first terrace -/
def d0F : DD := upd (upd (upd (fun _ => 0) 2 10) 3 20) 8 1
theorem d0_ok : DOK d0F := by
  refine ⟨?_, ⟨0, by omega, rfl⟩, ⟨0, by omega, rfl⟩⟩
  unfold d0F
  refine inv_upd (inv_upd (inv_upd ?_ (fun u hu => ?_)) (fun u hu => ?_)) (fun u hu => by cases hu)
  · intro k u hu
    refine ⟨show (0 : Int32) ≤ 0 by decide, ?_⟩
    show (0 : Int32) ≤ u
    unfold bnd hiH at hu
    grind
  · have hu2 : (99 : Int32) = u := Option.some.inj hu
    rw [← hu2]; decide
  · have hu2 : (99 : Int32) = u := Option.some.inj hu
    rw [← hu2]; decide
theorem d0_col (w : Nat) : col d0F w = fun _ => 0 := by
  funext h
  show d0F (10 + 5 * h + w) = 0
  unfold d0F
  rw [upd_ne (by omega), upd_ne (by omega), upd_ne (by omega)]
