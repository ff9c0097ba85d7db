/-! Questions to a machine: shortest. -/
theorem s_20N {d c m n j : Nat} {w : MWd} {mv an : Nat → Option Nat} {Q : MRes → MWd → Prop} (hj : j ≤ 100) (h : Q (.inl (some (vI NN))) w) : mR (d + 1) w 20 0 [some (vR (some (1, 0, c + 2 + 8 * m))), some (vI NN), some (vI (Int32.ofNat j)), none, none, none] [] Q := by
  have h0 : NN < Int32.ofNat 0 := (i_Nlt (by omega)).mpr trivial
  simp (disch := omega) only [e_20_0, e_20_1, e_20_2, e_20_5, e_20_8, e_20_9, e_20_12, e_20_13, e_20_14, e_20_17, e_20_18, e_20_19, e_20_20, e_20_23, e_20_24, e_20_25, e_20_28, e_20_29, e_20_30, e_20_31, e_20_33, e_20_34, e_20_35, e_20_36, e_20_40, e_20_41, e_20_44, e_20_45, e_20_47, e_20_50, e_20_53, e_20_54, e_20_57, e_20_59, e_20_60, e_20_62, e_20_65, e_20_68, e_20_69, e_20_71, e_20_74, e_20_77, e_20_78, e_20_81, e_20_83, e_20_84, e_20_87, e_20_88, e_16_0, e_16_1, e_16_4, e_16_5, e_16_6, e_16_9, e_16_12, e_16_13, e_16_15, e_16_18, e_16_19, e_16_22, e_16_23, i_lit, i_add, i_mul, i_m1, i_lt, i_le, i_eq, i_cl, i_in, i_ltN, i_Nlt, i_leN, i_Nle, i_eN, i_Ne, i_inN, i_l1, i_l2, mj_cpok, mj_nn, reduceCtorEq, lg_self, Nat.not_lt_zero, Nat.zero_le, Nat.reduceEqDiff, Nat.reduceLT, Nat.reduceLeDiff, true_or, or_true, false_or, or_false, not_true_eq_false, not_false_eq_true, true_imp_iff, false_imp_iff, and_self, wrd, u2, and_true, true_and, and_false, false_and, and_self, ite_true, ite_false, reduceIte, mK_v]
  (repeat' (first | (with_reducible refine And.intro ?_ ?_) | (with_reducible intro _)))
  all_goals first | omega | exact h
theorem s_20 {d c m n s j : Nat} {w : MWd} {mv an : Nat → Option Nat} {T dep : Nat → Nat} {Q : MRes → MWd → Prop} (hgs : grS w c) (hm : m < 4) (hA : ClsA w c m n mv an) (B : BF n mv T dep)
    (hp : ∀ k, 1 ≤ k → k < n → wAI w (c + 5 + 8 * m) k = Int32.ofNat (T k / 8) ∧ wAI w (c + 6 + 8 * m) k = Int32.ofNat (T k % 8)) (hd : ∀ k, k < n → wAI w (c + 7 + 8 * m) k = Int32.ofNat (dep k))
    (hs : s < n) (hj : j ≤ 100) (h : Q (.inl (some (vI (if j < dep s then Int32.ofNat (T (upT T (dep s - 1 - j) s) % 8) else NN)))) w) :
    mR (d + 1) w 20 0 [some (vR (some (1, 0, c + 2 + 8 * m))), some (vI (Int32.ofNat s)), some (vI (Int32.ofNat j)), none, none, none] [] Q := by
  have hn := hA.1
  have hds := hd s hs
  have hdl := BF_dep_le B s hs
  by_cases hjd : j < dep s
  · rw [if_pos hjd] at h
    have loop : ∀ (f e : Nat), e + f = dep s - 1 - j → mR (d + 1) w 20 38 [some (vR (some (1, 0, c + 2 + 8 * m))), some (vI (Int32.ofNat s)), some (vI (Int32.ofNat j)), some (vI (Int32.ofNat (dep s))), some (vI (Int32.ofNat (upT T e s))), some (vI (Int32.ofNat (dep s - 1 - e)))] [] Q := by
      intro f
      induction f with
      | zero =>
        intro e he
        obtain ⟨u1, u2, u3, u4⟩ := BF_upmv B hs (show e < dep s by omega)
        have hpe := (hp _ u1 u2).2
        rw [e_20_38]
        simp (disch := omega) only [e_20_0, e_20_1, e_20_2, e_20_5, e_20_8, e_20_9, e_20_12, e_20_13, e_20_14, e_20_17, e_20_18, e_20_19, e_20_20, e_20_23, e_20_24, e_20_25, e_20_28, e_20_29, e_20_30, e_20_31, e_20_33, e_20_34, e_20_35, e_20_36, e_20_40, e_20_41, e_20_44, e_20_45, e_20_47, e_20_50, e_20_53, e_20_54, e_20_57, e_20_59, e_20_60, e_20_62, e_20_65, e_20_68, e_20_69, e_20_71, e_20_74, e_20_77, e_20_78, e_20_81, e_20_83, e_20_84, e_20_87, e_20_88, e_16_0, e_16_1, e_16_4, e_16_5, e_16_6, e_16_9, e_16_12, e_16_13, e_16_15, e_16_18, e_16_19, e_16_22, e_16_23, i_lit, i_add, i_mul, i_m1, i_lt, i_le, i_eq, i_cl, i_in, i_ltN, i_Nlt, i_leN, i_Nle, i_eN, i_Ne, i_inN, i_l1, i_l2, mj_cpok, mj_nn, reduceCtorEq, lg_self, Nat.not_lt_zero, Nat.zero_le, Nat.reduceEqDiff, Nat.reduceLT, Nat.reduceLeDiff, true_or, or_true, false_or, or_false, not_true_eq_false, not_false_eq_true, true_imp_iff, false_imp_iff, and_self, wrd, u2, and_true, true_and, and_false, false_and, and_self, ite_true, ite_false, reduceIte, mK_v, hA.2.1, gs_67 hgs hm, hpe]
        (repeat' (first | (with_reducible refine And.intro ?_ ?_) | (with_reducible intro _)))
        all_goals try omega
        rw [show dep s - 1 - j = e by omega] at h; exact h
      | succ f ih =>
        intro e he
        obtain ⟨u1, u2, u3, u4⟩ := BF_upmv B hs (show e < dep s by omega)
        have hpe := (hp _ u1 u2).1
        rw [e_20_38]
        simp (disch := omega) only [e_20_0, e_20_1, e_20_2, e_20_5, e_20_8, e_20_9, e_20_12, e_20_13, e_20_14, e_20_17, e_20_18, e_20_19, e_20_20, e_20_23, e_20_24, e_20_25, e_20_28, e_20_29, e_20_30, e_20_31, e_20_33, e_20_34, e_20_35, e_20_36, e_20_40, e_20_41, e_20_44, e_20_45, e_20_47, e_20_50, e_20_53, e_20_54, e_20_57, e_20_59, e_20_60, e_20_62, e_20_65, e_20_68, e_20_69, e_20_71, e_20_74, e_20_77, e_20_78, e_20_81, e_20_83, e_20_84, e_20_87, e_20_88, e_16_0, e_16_1, e_16_4, e_16_5, e_16_6, e_16_9, e_16_12, e_16_13, e_16_15, e_16_18, e_16_19, e_16_22, e_16_23, i_lit, i_add, i_mul, i_m1, i_lt, i_le, i_eq, i_cl, i_in, i_ltN, i_Nlt, i_leN, i_Nle, i_eN, i_Ne, i_inN, i_l1, i_l2, mj_cpok, mj_nn, reduceCtorEq, lg_self, Nat.not_lt_zero, Nat.zero_le, Nat.reduceEqDiff, Nat.reduceLT, Nat.reduceLeDiff, true_or, or_true, false_or, or_false, not_true_eq_false, not_false_eq_true, true_imp_iff, false_imp_iff, and_self, wrd, u2, and_true, true_and, and_false, false_and, and_self, ite_true, ite_false, reduceIte, mK_v, hA.2.1, gs_66 hgs hm, hpe]
        (repeat' (first | (with_reducible refine And.intro ?_ ?_) | (with_reducible intro _)))
        all_goals try omega
        have ih' := ih (e + 1) (by omega)
        rw [show Int32.ofNat (dep s - 1 - e) + NN = Int32.ofNat (dep s - 1 - (e + 1)) from by
          rw [show dep s - 1 - e = (dep s - 1 - (e + 1)) + 1 by omega, ← i_add]
          exact (Int32.add_assoc _ _ _).trans (Int32.add_zero _)]
        exact ih'
    simp (disch := omega) only [e_20_0, e_20_1, e_20_2, e_20_5, e_20_8, e_20_9, e_20_12, e_20_13, e_20_14, e_20_17, e_20_18, e_20_19, e_20_20, e_20_23, e_20_24, e_20_25, e_20_28, e_20_29, e_20_30, e_20_31, e_20_33, e_20_34, e_20_35, e_20_36, e_20_40, e_20_41, e_20_44, e_20_45, e_20_47, e_20_50, e_20_53, e_20_54, e_20_57, e_20_59, e_20_60, e_20_62, e_20_65, e_20_68, e_20_69, e_20_71, e_20_74, e_20_77, e_20_78, e_20_81, e_20_83, e_20_84, e_20_87, e_20_88, e_16_0, e_16_1, e_16_4, e_16_5, e_16_6, e_16_9, e_16_12, e_16_13, e_16_15, e_16_18, e_16_19, e_16_22, e_16_23, i_lit, i_add, i_mul, i_m1, i_lt, i_le, i_eq, i_cl, i_in, i_ltN, i_Nlt, i_leN, i_Nle, i_eN, i_Ne, i_inN, i_l1, i_l2, mj_cpok, mj_nn, reduceCtorEq, lg_self, Nat.not_lt_zero, Nat.zero_le, Nat.reduceEqDiff, Nat.reduceLT, Nat.reduceLeDiff, true_or, or_true, false_or, or_false, not_true_eq_false, not_false_eq_true, true_imp_iff, false_imp_iff, and_self, wrd, u2, and_true, true_and, and_false, false_and, and_self, ite_true, ite_false, reduceIte, mK_v, hA.2.1, gs_68 hgs hm, hds]
    (repeat' (first | (with_reducible refine And.intro ?_ ?_) | (with_reducible intro _)))
    all_goals try omega
    rw [i_sub (by omega)]
    exact loop (dep s - 1 - j) 0 (by omega)
  · rw [if_neg hjd] at h
    simp (disch := omega) only [e_20_0, e_20_1, e_20_2, e_20_5, e_20_8, e_20_9, e_20_12, e_20_13, e_20_14, e_20_17, e_20_18, e_20_19, e_20_20, e_20_23, e_20_24, e_20_25, e_20_28, e_20_29, e_20_30, e_20_31, e_20_33, e_20_34, e_20_35, e_20_36, e_20_40, e_20_41, e_20_44, e_20_45, e_20_47, e_20_50, e_20_53, e_20_54, e_20_57, e_20_59, e_20_60, e_20_62, e_20_65, e_20_68, e_20_69, e_20_71, e_20_74, e_20_77, e_20_78, e_20_81, e_20_83, e_20_84, e_20_87, e_20_88, e_16_0, e_16_1, e_16_4, e_16_5, e_16_6, e_16_9, e_16_12, e_16_13, e_16_15, e_16_18, e_16_19, e_16_22, e_16_23, i_lit, i_add, i_mul, i_m1, i_lt, i_le, i_eq, i_cl, i_in, i_ltN, i_Nlt, i_leN, i_Nle, i_eN, i_Ne, i_inN, i_l1, i_l2, mj_cpok, mj_nn, reduceCtorEq, lg_self, Nat.not_lt_zero, Nat.zero_le, Nat.reduceEqDiff, Nat.reduceLT, Nat.reduceLeDiff, true_or, or_true, false_or, or_false, not_true_eq_false, not_false_eq_true, true_imp_iff, false_imp_iff, and_self, wrd, u2, and_true, true_and, and_false, false_and, and_self, ite_true, ite_false, reduceIte, mK_v, hA.2.1, gs_68 hgs hm, hds]
    (repeat' (first | (with_reducible refine And.intro ?_ ?_) | (with_reducible intro _)))
    all_goals first | omega | exact h
