/-! The constructors. -/
theorem k_77 {d : Nat} {w : MWd} {Q : MRes → MWd → Prop} {a : Nat} (h : Q (.inl none) (sFR (nwA w 1000) 448 a (some (20, 1000, wN w)))) : mR d w 77 0 [some (vR (some (7, 0, a)))] [] Q := by
  simp only [e_77_0, e_77_1, e_77_4, e_77_5, e_77_8, e_77_10, e_77_13]
  exact ⟨by decide, h⟩
theorem k_60 {d : Nat} {w : MWd} {Q : MRes → MWd → Prop} {a : Nat} (h : Q (.inl none) (sFR (nwA (sFR (nwA w 30) 320 a (some (20, 30, wN w))) 8) 321 a (some (20, 8, wN w + 1)))) : mR d w 60 0 [some (vR (some (5, 0, a)))] [] Q := by
  simp only [e_60_0, e_60_1, e_60_4, e_60_5, e_60_7, e_60_9, e_60_12, e_60_13, e_60_15, e_60_17, e_60_20]
  exact ⟨by decide, by decide, h⟩
