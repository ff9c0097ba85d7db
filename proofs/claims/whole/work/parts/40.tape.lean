/-! The tape of the class. -/
theorem t_79 {d : Nat} {w : MWd} {Q : MRes → MWd → Prop} {x : Int32} (hb : wFR w 448 2 = some (20, 1000, 3)) :
    mR d w 79 0 [some (vR (some (7, 0, 2))), some (vI x)] [] Q ↔ Q (.inl (some (vI (if 0 ≤ x ∧ x < wFI w 449 2 ∧ x < 1000 then wAI w 3 x.toNatClampNeg else -1)))) w := by
  simp only [e_79_0, e_79_1, e_79_4, e_79_5, e_79_6, e_79_9, e_79_12, e_79_13, e_79_16, e_79_19, e_79_20, e_79_23, e_79_24, e_79_25, e_79_28, e_79_29, hb]
  sorry
