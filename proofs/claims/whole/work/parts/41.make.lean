/-! The constructors (made by gen41.py). -/
theorem k_77 {d : Nat} {w : MWd} {Q : MRes → MWd → Prop} {a : Nat} (h : Q (.inl none) (sFR (nwA w 1000) 448 a (some (20, 1000, wN w)))) : mR d w 77 0 [some (vR (some (7, 0, a)))] [] Q := by
  simp only [e_77_0, e_77_1, e_77_4, e_77_5, e_77_8, e_77_10, e_77_13]
  exact ⟨by decide, h⟩
theorem k_60 {d : Nat} {w : MWd} {Q : MRes → MWd → Prop} {a : Nat} (h : Q (.inl none) (sFR (nwA (sFR (nwA w 30) 320 a (some (20, 30, wN w))) 8) 321 a (some (20, 8, wN w + 1)))) : mR d w 60 0 [some (vR (some (5, 0, a)))] [] Q := by
  simp only [e_60_0, e_60_1, e_60_4, e_60_5, e_60_7, e_60_9, e_60_12, e_60_13, e_60_15, e_60_17, e_60_20]
  exact ⟨by decide, by decide, h⟩
theorem k_12 {d : Nat} {w : MWd} {Q : MRes → MWd → Prop} {a : Nat} (h : Q (.inl none) (sFR (nwA (sFR (nwA (sFR (nwA (sFR (nwA (sFR (nwA (sFR (nwA (sFR (nwA w 800) 64 a (some (20, 800, wN w))) 100) 65 a (some (20, 100, wN w + 1))) 100) 66 a (some (20, 100, wN w + 2))) 100) 67 a (some (20, 100, wN w + 3))) 100) 68 a (some (20, 100, wN w + 4))) 100) 69 a (some (21, 100, wN w + 5))) 100) 70 a (some (21, 100, wN w + 6)))) : mR d w 12 0 [some (vR (some (1, 0, a)))] [] Q := by
  simp only [e_12_0, e_12_1, e_12_4, e_12_5, e_12_8, e_12_10, e_12_13, e_12_14, e_12_16, e_12_18, e_12_21, e_12_22, e_12_24, e_12_26, e_12_29, e_12_30, e_12_32, e_12_34, e_12_37, e_12_38, e_12_40, e_12_42, e_12_45, e_12_46, e_12_48, e_12_50, e_12_53, e_12_54, e_12_56, e_12_58, e_12_61]
  exact ⟨by decide, by decide, by decide, by decide, by decide, by decide, by decide, h⟩
theorem k_26 {d : Nat} {w : MWd} {Q : MRes → MWd → Prop} {a : Nat} (h : Q (.inl none) (sFR (nwA (sFR (nwA (sFR (nwA (sFR (nwA (sFR (nwA (sFR (nwA (sFR (nwA (sFR (nwA (sFR (nwA w 1200) 192 a (some (20, 1200, wN w))) 800) 193 a (some (20, 800, wN w + 1))) 100) 194 a (some (20, 100, wN w + 2))) 12) 195 a (some (20, 12, wN w + 3))) 12) 196 a (some (20, 12, wN w + 4))) 100) 197 a (some (20, 100, wN w + 5))) 100) 198 a (some (20, 100, wN w + 6))) 100) 199 a (some (20, 100, wN w + 7))) 100) 200 a (some (20, 100, wN w + 8)))) : mR d w 26 0 [some (vR (some (3, 0, a)))] [] Q := by
  simp only [e_26_0, e_26_1, e_26_4, e_26_5, e_26_8, e_26_10, e_26_13, e_26_14, e_26_17, e_26_19, e_26_22, e_26_23, e_26_25, e_26_27, e_26_30, e_26_31, e_26_33, e_26_35, e_26_38, e_26_39, e_26_41, e_26_43, e_26_46, e_26_47, e_26_49, e_26_51, e_26_54, e_26_55, e_26_57, e_26_59, e_26_62, e_26_63, e_26_65, e_26_67, e_26_70, e_26_71, e_26_73, e_26_75, e_26_78]
  exact ⟨by decide, by decide, by decide, by decide, by decide, by decide, by decide, by decide, by decide, h⟩
theorem k_39 {d : Nat} {w : MWd} {Q : MRes → MWd → Prop} {a : Nat} (h : Q (.inl none) (sFR (nwA (sFR (nwA (sFR (nwA (sFR (nwA w 40) 256 a (some (20, 40, wN w))) 40) 257 a (some (20, 40, wN w + 1))) 40) 258 a (some (20, 40, wN w + 2))) 40) 259 a (some (22, 40, wN w + 3)))) : mR d w 39 0 [some (vR (some (4, 0, a)))] [] Q := by
  simp only [e_39_0, e_39_1, e_39_4, e_39_5, e_39_7, e_39_9, e_39_12, e_39_13, e_39_15, e_39_17, e_39_20, e_39_21, e_39_23, e_39_25, e_39_28, e_39_29, e_39_31, e_39_33, e_39_36]
  exact ⟨by decide, by decide, by decide, by decide, h⟩
theorem k_0 {d : Nat} {w : MWd} {Q : MRes → MWd → Prop} {a : Nat} (h : Q (.inl none) (sFR (nwA (sFR (nwA w 2000) 0 a (some (20, 2000, wN w))) 1001) 1 a (some (22, 1001, wN w + 1)))) : mR d w 0 0 [some (vR (some (0, 0, a)))] [] Q := by
  simp only [e_0_0, e_0_1, e_0_4, e_0_5, e_0_8, e_0_10, e_0_13, e_0_14, e_0_17, e_0_19, e_0_22]
  exact ⟨by decide, by decide, h⟩
