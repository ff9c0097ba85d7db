/-! Constructors with loops: twelve rules, four machines (the loops unrolled, their counters are known). -/
theorem mj_toI0 : (0 : Int32) + 1 = 1 := rfl
/-- one turn of RuleBook's loop -/
theorem k_71_15 {d : Nat} {w : MWd} {Q : MRes → MWd → Prop} {a b : Nat} {i : Int32} (hr : wFR w 384 a = some (24, 12, b)) (hb : ¬ a = wN w) (hi : 0 ≤ i) (hi2 : i < 12)
    (h : mR (d + 1) (sAR (sFR (nwA (sFR (nwA (nwO w 15) 30) 320 (wN w) (some (20, 30, wN w + 1))) 8) 321 (wN w) (some (20, 8, wN w + 2))) b i.toNatClampNeg (some (5, 0, wN w))) 71 15 [some (vR (some (6, 0, a))), some (vI (i + 1))] [] Q) : mR (d + 1) w 71 15 [some (vR (some (6, 0, a))), some (vI i)] [] Q := by
  simp only [e_71_15, e_71_0, e_71_1, e_71_4, e_71_5, e_71_7, e_71_10, e_71_13, e_71_14, e_71_16, e_71_18, e_71_21, e_71_22, e_71_25, e_71_26, e_71_29, e_71_30, e_71_33, e_71_34, e_71_37, e_71_40]
  refine ⟨fun h9 => absurd hi2 (Int32.not_lt.mpr h9), fun _ => ?_⟩
  simp only [wrd, hr, hb, if_false]
  refine k_60 ?_
  simp only [mK_n, e_71_0, e_71_1, e_71_4, e_71_5, e_71_7, e_71_10, e_71_13, e_71_14, e_71_16, e_71_18, e_71_21, e_71_22, e_71_25, e_71_26, e_71_29, e_71_30, e_71_33, e_71_34, e_71_37, e_71_40, wrd]
  have h3 := Int32.lt_iff_toInt_lt.mp hi2
  exact ⟨⟨Or.inr ⟨by decide, by decide⟩, mj_in_of hi h3⟩, h⟩
