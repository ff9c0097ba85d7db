/-! The tape of the class. -/
theorem mj_in_of {x : Int32} {n : Nat} (h1 : 0 ≤ x) (h2 : x.toInt < n) : mj_in x n := by
  have h3 := Int32.le_iff_toInt_le.mp h1
  have h4 : (0 : Int32).toInt = 0 := rfl
  rintro (h | h)
  · exact Int32.not_lt.mpr h1 h
  · have h5 : x.toNatClampNeg = x.toInt.toNat := rfl
    omega
theorem t_79 {d : Nat} {w : MWd} {Q : MRes → MWd → Prop} {x : Int32} (hb : wFR w 448 2 = some (20, 1000, 3)) (h : Q (.inl (some (vI (if 0 ≤ x ∧ x < wFI w 449 2 ∧ x < 1000 then wAI w 3 x.toNatClampNeg else -1)))) w) :
    mR d w 79 0 [some (vR (some (7, 0, 2))), some (vI x)] [] Q := by
  simp only [e_79_0, e_79_1, e_79_4, e_79_5, e_79_6, e_79_9, e_79_12, e_79_13, e_79_16, e_79_19, e_79_20, e_79_23, e_79_24, e_79_25, e_79_28, e_79_29, hb]
  refine ⟨fun h1 => ?_, fun h1 => ⟨fun h2 => ?_, fun h2 => ⟨fun h3 => ?_, fun h3 => ⟨?_, ?_⟩⟩⟩⟩
  · rw [if_neg (fun q => Int32.not_lt.mpr q.1 h1)] at h; exact h
  · rw [if_neg (fun q => Int32.not_lt.mpr h2 q.2.1)] at h; exact h
  · rw [if_neg (fun q => Int32.not_lt.mpr h3 q.2.2)] at h; exact h
  · exact mj_in_of h1 (by have h4 := Int32.lt_iff_toInt_lt.mp h3; exact h4)
  · rw [if_pos ⟨h1, h2, h3⟩] at h; exact h
