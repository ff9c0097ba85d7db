/-! addRule: the class's reader, its small methods. -/
def sgI (c : Nat) : Int32 := if c = 256 then NN else Int32.ofNat c
def b2 (e : Bool) : Int32 := if e = true then Int32.ofNat 1 else Int32.ofNat 0
abbrev cF (r : Nat) : Nat → Nat → Prop := fun k a => (a = 42 ∧ 260 ≤ k ∧ k ≤ 262) ∨ (a = 6 + 3 * r ∧ k = 326)
abbrev cA (r : Nat) : Nat → Prop := fun a => a = 44 ∨ a = 45 ∨ a = 46 ∨ a = 7 + 3 * r ∨ a = 8 + 3 * r
def clS (S : Nat → Nat) (W : MWd) : Prop := ∀ j, j < 40 → wAI W 43 j = sgI (S j)
def clR (W : MWd) (r t i np : Nat) (fo lt : Nat → Int32) : Prop := wFI W 262 42 = NN ∧ wFI W 261 42 = Int32.ofNat i ∧ wFI W 260 42 = Int32.ofNat t ∧ wFI W 326 (6 + 3 * r) = Int32.ofNat np ∧
  (∀ p, p < 30 → wAI W (7 + 3 * r) p = fo p) ∧ ∀ l q, l < 8 → q < 32 → bt (wAI W (8 + 3 * r) l) q = (decide (q < np) && bt (lt q) l)
theorem sgI_e : sgI 256 = NN := rfl
theorem sgI_n {c : Nat} (h : c ≠ 256) : sgI c = Int32.ofNat c := if_neg h
section CL
variable {d : Nat} {W : MWd} {S : Nat → Nat} {i : Nat} {Q : MRes → MWd → Prop}
theorem c_52 (G : Gr W) (hS : sgOk S) (hs : clS S W) (h2 : wFI W 262 42 = NN) (h1 : wFI W 261 42 = Int32.ofNat i) (hi : i ≤ 40) (h : Q (.inl (some (vI (sgI (S i))))) W) : mR d W 52 0 [some (vR (some (4, 0, 42)))] [] Q := by
  by_cases c : i < 40
  · have e := hs i c
    simp (disch := omega) only [e_52_0, e_52_1, e_52_4, e_52_5, e_52_8, e_52_9, e_52_12, e_52_15, e_52_16, e_52_19, e_52_21, e_52_24, e_52_25, e_52_28, e_52_29, e_52_32, e_52_33, e_52_36, e_52_37, i_lit, i_add, i_mul, i_m1, i_lt, i_le, i_eq, i_cl, i_in, i_ltN, i_Nlt, i_leN, i_Nle, i_eN, i_Ne, i_inN, i_l1, i_l2, mj_cpok, mj_nn, reduceCtorEq, lg_self, Nat.not_lt_zero, Nat.zero_le, Nat.reduceEqDiff, Nat.reduceLT, Nat.reduceLeDiff, true_or, or_true, false_or, or_false, not_true_eq_false, not_false_eq_true, true_imp_iff, false_imp_iff, and_self, wrd, u2, and_true, true_and, and_false, false_and, and_self, ite_true, ite_false, reduceIte, g_256 G, h1, h2, e]
    (repeat' (first | (with_reducible refine And.intro ?_ ?_) | (with_reducible intro _)))
    all_goals first | omega | exact h
  · rw [(hS i).2 (by omega)] at h
    have h' : Q (.inl (some (vI NN))) W := h
    simp (disch := omega) only [e_52_0, e_52_1, e_52_4, e_52_5, e_52_8, e_52_9, e_52_12, e_52_15, e_52_16, e_52_19, e_52_21, e_52_24, e_52_25, e_52_28, e_52_29, e_52_32, e_52_33, e_52_36, e_52_37, i_lit, i_add, i_mul, i_m1, i_lt, i_le, i_eq, i_cl, i_in, i_ltN, i_Nlt, i_leN, i_Nle, i_eN, i_Ne, i_inN, i_l1, i_l2, mj_cpok, mj_nn, reduceCtorEq, lg_self, Nat.not_lt_zero, Nat.zero_le, Nat.reduceEqDiff, Nat.reduceLT, Nat.reduceLeDiff, true_or, or_true, false_or, or_false, not_true_eq_false, not_false_eq_true, true_imp_iff, false_imp_iff, and_self, wrd, u2, and_true, true_and, and_false, false_and, and_self, ite_true, ite_false, reduceIte, g_256 G, h1, h2]
    (repeat' (first | (with_reducible refine And.intro ?_ ?_) | (with_reducible intro _)))
    all_goals first | omega | exact h'
theorem c_52d {e : Nat} (he : e ≤ 40) (h2 : wFI W 262 42 = Int32.ofNat e) (h : Q (.inl (some (vI NN))) W) : mR d W 52 0 [some (vR (some (4, 0, 42)))] [] Q := by
  simp (disch := omega) only [e_52_0, e_52_1, e_52_4, e_52_5, e_52_8, e_52_9, e_52_12, e_52_15, e_52_16, e_52_19, e_52_21, e_52_24, e_52_25, e_52_28, e_52_29, e_52_32, e_52_33, e_52_36, e_52_37, i_lit, i_add, i_mul, i_m1, i_lt, i_le, i_eq, i_cl, i_in, i_ltN, i_Nlt, i_leN, i_Nle, i_eN, i_Ne, i_inN, i_l1, i_l2, mj_cpok, mj_nn, reduceCtorEq, lg_self, Nat.not_lt_zero, Nat.zero_le, Nat.reduceEqDiff, Nat.reduceLT, Nat.reduceLeDiff, true_or, or_true, false_or, or_false, not_true_eq_false, not_false_eq_true, true_imp_iff, false_imp_iff, and_self, wrd, u2, and_true, true_and, and_false, false_and, and_self, ite_true, ite_false, reduceIte, h2]
  (repeat' (first | (with_reducible refine And.intro ?_ ?_) | (with_reducible intro _)))
  all_goals first | omega | exact h
theorem c_51 (h2 : wFI W 262 42 = NN) (h1 : wFI W 261 42 = Int32.ofNat i) (h : Q (.inl none) (sFI W 262 42 (Int32.ofNat i))) : mR d W 51 0 [some (vR (some (4, 0, 42)))] [] Q := by
  simp (disch := omega) only [e_51_0, e_51_1, e_51_4, e_51_5, e_51_8, e_51_9, e_51_10, e_51_13, e_51_16, i_lit, i_add, i_mul, i_m1, i_lt, i_le, i_eq, i_cl, i_in, i_ltN, i_Nlt, i_leN, i_Nle, i_eN, i_Ne, i_inN, i_l1, i_l2, mj_cpok, mj_nn, reduceCtorEq, lg_self, Nat.not_lt_zero, Nat.zero_le, Nat.reduceEqDiff, Nat.reduceLT, Nat.reduceLeDiff, true_or, or_true, false_or, or_false, not_true_eq_false, not_false_eq_true, true_imp_iff, false_imp_iff, and_self, wrd, u2, and_true, true_and, and_false, false_and, and_self, ite_true, ite_false, reduceIte, h1, h2]
  (repeat' (first | (with_reducible refine And.intro ?_ ?_) | (with_reducible intro _)))
  all_goals first | omega | exact h
theorem c_51d {e : Nat} (he : e ≤ 40) (h2 : wFI W 262 42 = Int32.ofNat e) (h : Q (.inl none) W) : mR d W 51 0 [some (vR (some (4, 0, 42)))] [] Q := by
  simp (disch := omega) only [e_51_0, e_51_1, e_51_4, e_51_5, e_51_8, e_51_9, e_51_10, e_51_13, e_51_16, i_lit, i_add, i_mul, i_m1, i_lt, i_le, i_eq, i_cl, i_in, i_ltN, i_Nlt, i_leN, i_Nle, i_eN, i_Ne, i_inN, i_l1, i_l2, mj_cpok, mj_nn, reduceCtorEq, lg_self, Nat.not_lt_zero, Nat.zero_le, Nat.reduceEqDiff, Nat.reduceLT, Nat.reduceLeDiff, true_or, or_true, false_or, or_false, not_true_eq_false, not_false_eq_true, true_imp_iff, false_imp_iff, and_self, wrd, u2, and_true, true_and, and_false, false_and, and_self, ite_true, ite_false, reduceIte, h2]
  (repeat' (first | (with_reducible refine And.intro ?_ ?_) | (with_reducible intro _)))
  all_goals first | omega | exact h
theorem c_53 {c : Nat} (hc : c ≤ 256) (h1 : isL c → Q (.inl (some (vI (Int32.ofNat 1)))) W) (h0 : ¬ isL c → Q (.inl (some (vI (Int32.ofNat 0)))) W) : mR d W 53 0 [some (vI (sgI c))] [] Q := by
  by_cases h : isL c
  · have k := h1 h
    rw [sgI_n (by omega)]
    simp (disch := omega) only [e_53_0, e_53_1, e_53_3, e_53_6, e_53_7, e_53_9, e_53_12, e_53_13, e_53_16, e_53_17, i_lit, i_add, i_mul, i_m1, i_lt, i_le, i_eq, i_cl, i_in, i_ltN, i_Nlt, i_leN, i_Nle, i_eN, i_Ne, i_inN, i_l1, i_l2, mj_cpok, mj_nn, reduceCtorEq, lg_self, Nat.not_lt_zero, Nat.zero_le, Nat.reduceEqDiff, Nat.reduceLT, Nat.reduceLeDiff, true_or, or_true, false_or, or_false, not_true_eq_false, not_false_eq_true, true_imp_iff, false_imp_iff, and_self, wrd, u2, and_true, true_and, and_false, false_and, and_self, ite_true, ite_false, reduceIte]
    (repeat' (first | (with_reducible refine And.intro ?_ ?_) | (with_reducible intro _)))
    all_goals first | omega | exact k
  · have k := h0 h
    by_cases h' : c = 256
    · subst h'
      rw [sgI_e]
      simp (disch := omega) only [e_53_0, e_53_1, e_53_3, e_53_6, e_53_7, e_53_9, e_53_12, e_53_13, e_53_16, e_53_17, i_lit, i_add, i_mul, i_m1, i_lt, i_le, i_eq, i_cl, i_in, i_ltN, i_Nlt, i_leN, i_Nle, i_eN, i_Ne, i_inN, i_l1, i_l2, mj_cpok, mj_nn, reduceCtorEq, lg_self, Nat.not_lt_zero, Nat.zero_le, Nat.reduceEqDiff, Nat.reduceLT, Nat.reduceLeDiff, true_or, or_true, false_or, or_false, not_true_eq_false, not_false_eq_true, true_imp_iff, false_imp_iff, and_self, wrd, u2, and_true, true_and, and_false, false_and, and_self, ite_true, ite_false, reduceIte]
      (repeat' (first | (with_reducible refine And.intro ?_ ?_) | (with_reducible intro _)))
      all_goals first | omega | exact k
    · rw [sgI_n (by omega)]
      simp (disch := omega) only [e_53_0, e_53_1, e_53_3, e_53_6, e_53_7, e_53_9, e_53_12, e_53_13, e_53_16, e_53_17, i_lit, i_add, i_mul, i_m1, i_lt, i_le, i_eq, i_cl, i_in, i_ltN, i_Nlt, i_leN, i_Nle, i_eN, i_Ne, i_inN, i_l1, i_l2, mj_cpok, mj_nn, reduceCtorEq, lg_self, Nat.not_lt_zero, Nat.zero_le, Nat.reduceEqDiff, Nat.reduceLT, Nat.reduceLeDiff, true_or, or_true, false_or, or_false, not_true_eq_false, not_false_eq_true, true_imp_iff, false_imp_iff, and_self, wrd, u2, and_true, true_and, and_false, false_and, and_self, ite_true, ite_false, reduceIte]
      (repeat' (first | (with_reducible refine And.intro ?_ ?_) | (with_reducible intro _)))
      all_goals first | omega | exact k
theorem c_54 {c : Nat} (hc : c ≤ 256) (h1 : isL c → Q (.inl (some (vI (bit1 (c - 97))))) W) (h0 : ¬ isL c → Q (.inl (some (vI (Int32.ofNat 0)))) W) : mR (d + 1) W 54 0 [some (vI (sgI c))] [] Q := by
  simp (disch := omega) only [e_54_0, e_54_1, e_54_4, e_54_7, e_54_8, e_54_9, e_54_11, e_54_12, e_54_13, e_54_16, e_54_17, i_lit, i_add, i_mul, i_m1, i_lt, i_le, i_eq, i_cl, i_in, i_ltN, i_Nlt, i_leN, i_Nle, i_eN, i_Ne, i_inN, i_l1, i_l2, mj_cpok, mj_nn, reduceCtorEq, lg_self, Nat.not_lt_zero, Nat.zero_le, Nat.reduceEqDiff, Nat.reduceLT, Nat.reduceLeDiff, true_or, or_true, false_or, or_false, not_true_eq_false, not_false_eq_true, true_imp_iff, false_imp_iff, and_self, wrd, u2, and_true, true_and, and_false, false_and, and_self, ite_true, ite_false, reduceIte]
  refine c_53 hc (fun h => ?_) (fun h => ?_)
  · have k := h1 h
    unfold bit1 at k
    rw [sgI_n (by omega)]
    simp (disch := omega) only [e_54_0, e_54_1, e_54_4, e_54_7, e_54_8, e_54_9, e_54_11, e_54_12, e_54_13, e_54_16, e_54_17, i_lit, i_add, i_mul, i_m1, i_lt, i_le, i_eq, i_cl, i_in, i_ltN, i_Nlt, i_leN, i_Nle, i_eN, i_Ne, i_inN, i_l1, i_l2, mj_cpok, mj_nn, reduceCtorEq, lg_self, Nat.not_lt_zero, Nat.zero_le, Nat.reduceEqDiff, Nat.reduceLT, Nat.reduceLeDiff, true_or, or_true, false_or, or_false, not_true_eq_false, not_false_eq_true, true_imp_iff, false_imp_iff, and_self, wrd, u2, and_true, true_and, and_false, false_and, and_self, ite_true, ite_false, reduceIte, mK_v, i_sub]
    (repeat' (first | (with_reducible refine And.intro ?_ ?_) | (with_reducible intro _)))
    all_goals first | omega | exact k
  · have k := h0 h
    simp (disch := omega) only [e_54_0, e_54_1, e_54_4, e_54_7, e_54_8, e_54_9, e_54_11, e_54_12, e_54_13, e_54_16, e_54_17, i_lit, i_add, i_mul, i_m1, i_lt, i_le, i_eq, i_cl, i_in, i_ltN, i_Nlt, i_leN, i_Nle, i_eN, i_Ne, i_inN, i_l1, i_l2, mj_cpok, mj_nn, reduceCtorEq, lg_self, Nat.not_lt_zero, Nat.zero_le, Nat.reduceEqDiff, Nat.reduceLT, Nat.reduceLeDiff, true_or, or_true, false_or, or_false, not_true_eq_false, not_false_eq_true, true_imp_iff, false_imp_iff, and_self, wrd, u2, and_true, true_and, and_false, false_and, and_self, ite_true, ite_false, reduceIte, mK_v]
    (repeat' (first | (with_reducible refine And.intro ?_ ?_) | (with_reducible intro _)))
    all_goals first | omega | exact k
theorem c_55 {c : Nat} (hc : c ≤ 256) (h1 : atB c → Q (.inl (some (vI (Int32.ofNat 1)))) W) (h0 : ¬ atB c → Q (.inl (some (vI (Int32.ofNat 0)))) W) : mR (d + 1) W 55 0 [some (vI (sgI c))] [] Q := by
  simp (disch := omega) only [e_55_0, e_55_1, e_55_4, e_55_7, e_55_8, e_55_10, e_55_13, e_55_14, e_55_16, e_55_19, e_55_20, e_55_22, e_55_25, e_55_26, e_55_29, e_55_30, i_lit, i_add, i_mul, i_m1, i_lt, i_le, i_eq, i_cl, i_in, i_ltN, i_Nlt, i_leN, i_Nle, i_eN, i_Ne, i_inN, i_l1, i_l2, mj_cpok, mj_nn, reduceCtorEq, lg_self, Nat.not_lt_zero, Nat.zero_le, Nat.reduceEqDiff, Nat.reduceLT, Nat.reduceLeDiff, true_or, or_true, false_or, or_false, not_true_eq_false, not_false_eq_true, true_imp_iff, false_imp_iff, and_self, wrd, u2, and_true, true_and, and_false, false_and, and_self, ite_true, ite_false, reduceIte]
  refine c_53 hc (fun h => ?_) (fun h => ?_)
  · have k := h1 (Or.inl h)
    simp (disch := omega) only [e_55_0, e_55_1, e_55_4, e_55_7, e_55_8, e_55_10, e_55_13, e_55_14, e_55_16, e_55_19, e_55_20, e_55_22, e_55_25, e_55_26, e_55_29, e_55_30, i_lit, i_add, i_mul, i_m1, i_lt, i_le, i_eq, i_cl, i_in, i_ltN, i_Nlt, i_leN, i_Nle, i_eN, i_Ne, i_inN, i_l1, i_l2, mj_cpok, mj_nn, reduceCtorEq, lg_self, Nat.not_lt_zero, Nat.zero_le, Nat.reduceEqDiff, Nat.reduceLT, Nat.reduceLeDiff, true_or, or_true, false_or, or_false, not_true_eq_false, not_false_eq_true, true_imp_iff, false_imp_iff, and_self, wrd, u2, and_true, true_and, and_false, false_and, and_self, ite_true, ite_false, reduceIte, mK_v]
    (repeat' (first | (with_reducible refine And.intro ?_ ?_) | (with_reducible intro _)))
    all_goals first | omega | exact k
  · by_cases h' : c = 256
    · subst h'
      have k := h0 (by omega)
      rw [sgI_e]
      simp (disch := omega) only [e_55_0, e_55_1, e_55_4, e_55_7, e_55_8, e_55_10, e_55_13, e_55_14, e_55_16, e_55_19, e_55_20, e_55_22, e_55_25, e_55_26, e_55_29, e_55_30, i_lit, i_add, i_mul, i_m1, i_lt, i_le, i_eq, i_cl, i_in, i_ltN, i_Nlt, i_leN, i_Nle, i_eN, i_Ne, i_inN, i_l1, i_l2, mj_cpok, mj_nn, reduceCtorEq, lg_self, Nat.not_lt_zero, Nat.zero_le, Nat.reduceEqDiff, Nat.reduceLT, Nat.reduceLeDiff, true_or, or_true, false_or, or_false, not_true_eq_false, not_false_eq_true, true_imp_iff, false_imp_iff, and_self, wrd, u2, and_true, true_and, and_false, false_and, and_self, ite_true, ite_false, reduceIte, mK_v]
      (repeat' (first | (with_reducible refine And.intro ?_ ?_) | (with_reducible intro _)))
      all_goals first | omega | exact k
    · rw [sgI_n (by omega)]
      by_cases h2 : atB c
      · have k := h1 h2
        simp (disch := omega) only [e_55_0, e_55_1, e_55_4, e_55_7, e_55_8, e_55_10, e_55_13, e_55_14, e_55_16, e_55_19, e_55_20, e_55_22, e_55_25, e_55_26, e_55_29, e_55_30, i_lit, i_add, i_mul, i_m1, i_lt, i_le, i_eq, i_cl, i_in, i_ltN, i_Nlt, i_leN, i_Nle, i_eN, i_Ne, i_inN, i_l1, i_l2, mj_cpok, mj_nn, reduceCtorEq, lg_self, Nat.not_lt_zero, Nat.zero_le, Nat.reduceEqDiff, Nat.reduceLT, Nat.reduceLeDiff, true_or, or_true, false_or, or_false, not_true_eq_false, not_false_eq_true, true_imp_iff, false_imp_iff, and_self, wrd, u2, and_true, true_and, and_false, false_and, and_self, ite_true, ite_false, reduceIte, mK_v]
        (repeat' (first | (with_reducible refine And.intro ?_ ?_) | (with_reducible intro _)))
        all_goals first | omega | exact k
      · have k := h0 h2
        simp (disch := omega) only [e_55_0, e_55_1, e_55_4, e_55_7, e_55_8, e_55_10, e_55_13, e_55_14, e_55_16, e_55_19, e_55_20, e_55_22, e_55_25, e_55_26, e_55_29, e_55_30, i_lit, i_add, i_mul, i_m1, i_lt, i_le, i_eq, i_cl, i_in, i_ltN, i_Nlt, i_leN, i_Nle, i_eN, i_Ne, i_inN, i_l1, i_l2, mj_cpok, mj_nn, reduceCtorEq, lg_self, Nat.not_lt_zero, Nat.zero_le, Nat.reduceEqDiff, Nat.reduceLT, Nat.reduceLeDiff, true_or, or_true, false_or, or_false, not_true_eq_false, not_false_eq_true, true_imp_iff, false_imp_iff, and_self, wrd, u2, and_true, true_and, and_false, false_and, and_self, ite_true, ite_false, reduceIte, mK_v]
        (repeat' (first | (with_reducible refine And.intro ?_ ?_) | (with_reducible intro _)))
        all_goals first | omega | exact k
theorem c_49 (G : Gr W) (hS : sgOk S) (hs : clS S W) (h2 : wFI W 262 42 = NN) (h1 : wFI W 261 42 = Int32.ofNat i) (hi : i ≤ 40)
    (K1 : isL (S i) → Q (.inl (some (vI (sgI (S i))))) (sFI W 261 42 (Int32.ofNat (i + 1)))) (K0 : ¬ isL (S i) → Q (.inl (some (vI (sgI (S i))))) (sFI W 262 42 (Int32.ofNat i))) : mR (d + 1) W 49 0 [some (vR (some (4, 0, 42))), none] [] Q := by
  simp (disch := omega) only [e_49_0, e_49_1, e_49_4, e_49_5, e_49_6, e_49_9, e_49_12, e_49_13, e_49_14, e_49_17, e_49_18, e_49_19, e_49_22, e_49_25, e_49_26, e_49_29, e_49_30, i_lit, i_add, i_mul, i_m1, i_lt, i_le, i_eq, i_cl, i_in, i_ltN, i_Nlt, i_leN, i_Nle, i_eN, i_Ne, i_inN, i_l1, i_l2, mj_cpok, mj_nn, reduceCtorEq, lg_self, Nat.not_lt_zero, Nat.zero_le, Nat.reduceEqDiff, Nat.reduceLT, Nat.reduceLeDiff, true_or, or_true, false_or, or_false, not_true_eq_false, not_false_eq_true, true_imp_iff, false_imp_iff, and_self, wrd, u2, and_true, true_and, and_false, false_and, and_self, ite_true, ite_false, reduceIte]
  refine c_52 G hS hs h2 h1 hi ?_
  simp (disch := omega) only [e_49_0, e_49_1, e_49_4, e_49_5, e_49_6, e_49_9, e_49_12, e_49_13, e_49_14, e_49_17, e_49_18, e_49_19, e_49_22, e_49_25, e_49_26, e_49_29, e_49_30, i_lit, i_add, i_mul, i_m1, i_lt, i_le, i_eq, i_cl, i_in, i_ltN, i_Nlt, i_leN, i_Nle, i_eN, i_Ne, i_inN, i_l1, i_l2, mj_cpok, mj_nn, reduceCtorEq, lg_self, Nat.not_lt_zero, Nat.zero_le, Nat.reduceEqDiff, Nat.reduceLT, Nat.reduceLeDiff, true_or, or_true, false_or, or_false, not_true_eq_false, not_false_eq_true, true_imp_iff, false_imp_iff, and_self, wrd, u2, and_true, true_and, and_false, false_and, and_self, ite_true, ite_false, reduceIte, mK_v]
  refine c_53 (hS i).1 (fun h => ?_) (fun h => ?_)
  · have k := K1 h
    simp (disch := omega) only [e_49_0, e_49_1, e_49_4, e_49_5, e_49_6, e_49_9, e_49_12, e_49_13, e_49_14, e_49_17, e_49_18, e_49_19, e_49_22, e_49_25, e_49_26, e_49_29, e_49_30, i_lit, i_add, i_mul, i_m1, i_lt, i_le, i_eq, i_cl, i_in, i_ltN, i_Nlt, i_leN, i_Nle, i_eN, i_Ne, i_inN, i_l1, i_l2, mj_cpok, mj_nn, reduceCtorEq, lg_self, Nat.not_lt_zero, Nat.zero_le, Nat.reduceEqDiff, Nat.reduceLT, Nat.reduceLeDiff, true_or, or_true, false_or, or_false, not_true_eq_false, not_false_eq_true, true_imp_iff, false_imp_iff, and_self, wrd, u2, and_true, true_and, and_false, false_and, and_self, ite_true, ite_false, reduceIte, mK_v, h1]
    (repeat' (first | (with_reducible refine And.intro ?_ ?_) | (with_reducible intro _)))
    all_goals first | omega | exact k
  · have k := K0 h
    simp (disch := omega) only [e_49_0, e_49_1, e_49_4, e_49_5, e_49_6, e_49_9, e_49_12, e_49_13, e_49_14, e_49_17, e_49_18, e_49_19, e_49_22, e_49_25, e_49_26, e_49_29, e_49_30, i_lit, i_add, i_mul, i_m1, i_lt, i_le, i_eq, i_cl, i_in, i_ltN, i_Nlt, i_leN, i_Nle, i_eN, i_Ne, i_inN, i_l1, i_l2, mj_cpok, mj_nn, reduceCtorEq, lg_self, Nat.not_lt_zero, Nat.zero_le, Nat.reduceEqDiff, Nat.reduceLT, Nat.reduceLeDiff, true_or, or_true, false_or, or_false, not_true_eq_false, not_false_eq_true, true_imp_iff, false_imp_iff, and_self, wrd, u2, and_true, true_and, and_false, false_and, and_self, ite_true, ite_false, reduceIte, mK_v]
    (repeat' (first | (with_reducible refine And.intro ?_ ?_) | (with_reducible intro _)))
    all_goals try omega
    refine c_51 h2 h1 ?_
    simp (disch := omega) only [e_49_0, e_49_1, e_49_4, e_49_5, e_49_6, e_49_9, e_49_12, e_49_13, e_49_14, e_49_17, e_49_18, e_49_19, e_49_22, e_49_25, e_49_26, e_49_29, e_49_30, i_lit, i_add, i_mul, i_m1, i_lt, i_le, i_eq, i_cl, i_in, i_ltN, i_Nlt, i_leN, i_Nle, i_eN, i_Ne, i_inN, i_l1, i_l2, mj_cpok, mj_nn, reduceCtorEq, lg_self, Nat.not_lt_zero, Nat.zero_le, Nat.reduceEqDiff, Nat.reduceLT, Nat.reduceLeDiff, true_or, or_true, false_or, or_false, not_true_eq_false, not_false_eq_true, true_imp_iff, false_imp_iff, and_self, wrd, u2, and_true, true_and, and_false, false_and, and_self, ite_true, ite_false, reduceIte, mK_n]
    (repeat' (first | (with_reducible refine And.intro ?_ ?_) | (with_reducible intro _)))
    all_goals first | omega | exact k
/-- the letters from one to another -/
theorem c_48l {a b : Nat} (ha : a < 8) (hb : b < 8) {x5 : Option MV} {p : Option Ptr} (h : Q (.inl (some (vI (spM a b 8)))) W) : ∀ (f k : Nat) (x5 : Option MV), k + f = 8 → mR (d + 2) W 48 39 [some (vR p), some (vI (Int32.ofNat (97 + a))), some (vI (Int32.ofNat (97 + b))), some (vI (spM a b k)), some (vI (Int32.ofNat k)), x5] [] Q := by
  intro f
  induction f with
  | zero =>
    intro k x5 hk
    have e : k = 8 := by omega
    subst e
    rw [e_48_39]
    simp (disch := omega) only [e_48_41, e_48_43, e_48_83, e_48_84, i_lit, i_add, i_mul, i_m1, i_lt, i_le, i_eq, i_cl, i_in, i_ltN, i_Nlt, i_leN, i_Nle, i_eN, i_Ne, i_inN, i_l1, i_l2, mj_cpok, mj_nn, reduceCtorEq, lg_self, Nat.not_lt_zero, Nat.zero_le, Nat.reduceEqDiff, Nat.reduceLT, Nat.reduceLeDiff, true_or, or_true, false_or, or_false, not_true_eq_false, not_false_eq_true, true_imp_iff, false_imp_iff, and_self, wrd, u2, and_true, true_and, and_false, false_and, and_self, ite_true, ite_false, reduceIte]
    (repeat' (first | (with_reducible refine And.intro ?_ ?_) | (with_reducible intro _)))
    all_goals first | omega | exact h
  | succ f ih =>
    intro k x5 hk
    have nn := ih (k + 1) (some (vI (Int32.ofNat (97 + k)))) (by omega)
    rw [e_48_39]
    have eM : spM a b (k + 1) = spM a b k ||| (if a ≤ k ∧ k ≤ b then bit1 k else Int32.ofNat 0) := rfl
    by_cases c : a ≤ k ∧ k ≤ b
    · rw [if_pos c] at eM
      rw [eM] at nn
      simp (disch := omega) only [e_48_41, e_48_43, e_48_46, e_48_48, e_48_50, e_48_51, e_48_53, e_48_54, e_48_56, e_48_57, e_48_60, e_48_62, e_48_63, e_48_66, e_48_68, i_lit, i_add, i_mul, i_m1, i_lt, i_le, i_eq, i_cl, i_in, i_ltN, i_Nlt, i_leN, i_Nle, i_eN, i_Ne, i_inN, i_l1, i_l2, mj_cpok, mj_nn, reduceCtorEq, lg_self, Nat.not_lt_zero, Nat.zero_le, Nat.reduceEqDiff, Nat.reduceLT, Nat.reduceLeDiff, true_or, or_true, false_or, or_false, not_true_eq_false, not_false_eq_true, true_imp_iff, false_imp_iff, and_self, wrd, u2, and_true, true_and, and_false, false_and, and_self, ite_true, ite_false, reduceIte]
      (repeat' (first | (with_reducible refine And.intro ?_ ?_) | (with_reducible intro _)))
      all_goals try omega
      have hc : 97 + k ≤ 256 := by omega
      rw [← sgI_n (c := 97 + k) (by omega)]
      refine c_54 hc (fun h' => ?_) (fun h' => absurd (show isL (97 + k) by omega) h')
      rw [show 97 + k - 97 = k by omega]
      rw [sgI_n (by omega)]
      simp (disch := omega) only [mK_v, e_48_71, e_48_75, e_48_76, e_48_77, e_48_80, i_lit, i_add, i_mul, i_m1, i_lt, i_le, i_eq, i_cl, i_in, i_ltN, i_Nlt, i_leN, i_Nle, i_eN, i_Ne, i_inN, i_l1, i_l2, mj_cpok, mj_nn, reduceCtorEq, lg_self, Nat.not_lt_zero, Nat.zero_le, Nat.reduceEqDiff, Nat.reduceLT, Nat.reduceLeDiff, true_or, or_true, false_or, or_false, not_true_eq_false, not_false_eq_true, true_imp_iff, false_imp_iff, and_self, wrd, u2, and_true, true_and, and_false, false_and, and_self, ite_true, ite_false, reduceIte]
      (repeat' (first | (with_reducible refine And.intro ?_ ?_) | (with_reducible intro _)))
      all_goals first | omega | exact nn
    · rw [if_neg c, or_0] at eM
      rw [eM] at nn
      simp (disch := omega) only [e_48_41, e_48_43, e_48_46, e_48_48, e_48_50, e_48_51, e_48_53, e_48_54, e_48_56, e_48_57, e_48_60, e_48_62, e_48_63, e_48_66, e_48_68, e_48_74, e_48_75, e_48_76, e_48_77, e_48_80, i_lit, i_add, i_mul, i_m1, i_lt, i_le, i_eq, i_cl, i_in, i_ltN, i_Nlt, i_leN, i_Nle, i_eN, i_Ne, i_inN, i_l1, i_l2, mj_cpok, mj_nn, reduceCtorEq, lg_self, Nat.not_lt_zero, Nat.zero_le, Nat.reduceEqDiff, Nat.reduceLT, Nat.reduceLeDiff, true_or, or_true, false_or, or_false, not_true_eq_false, not_false_eq_true, true_imp_iff, false_imp_iff, and_self, wrd, u2, and_true, true_and, and_false, false_and, and_self, ite_true, ite_false, reduceIte, or_0]
      (repeat' (first | (with_reducible refine And.intro ?_ ?_) | (with_reducible intro _)))
      all_goals first | omega | exact nn
theorem c_48g {x1 x2 : Int32} {p : Option Ptr} (h : ∀ x, Q (.inl (some (vI x))) W) : ∀ (f k : Nat) (m : Int32) (x5 : Option MV), k + f = 8 → mR (d + 2) W 48 39 [some (vR p), some (vI x1), some (vI x2), some (vI m), some (vI (Int32.ofNat k)), x5] [] Q := by
  intro f
  induction f with
  | zero =>
    intro k m x5 hk
    have e : k = 8 := by omega
    subst e
    rw [e_48_39]
    simp (disch := omega) only [e_48_41, e_48_43, e_48_83, e_48_84, i_lit, i_add, i_mul, i_m1, i_lt, i_le, i_eq, i_cl, i_in, i_ltN, i_Nlt, i_leN, i_Nle, i_eN, i_Ne, i_inN, i_l1, i_l2, mj_cpok, mj_nn, reduceCtorEq, lg_self, Nat.not_lt_zero, Nat.zero_le, Nat.reduceEqDiff, Nat.reduceLT, Nat.reduceLeDiff, true_or, or_true, false_or, or_false, not_true_eq_false, not_false_eq_true, true_imp_iff, false_imp_iff, and_self, wrd, u2, and_true, true_and, and_false, false_and, and_self, ite_true, ite_false, reduceIte]
    (repeat' (first | (with_reducible refine And.intro ?_ ?_) | (with_reducible intro _)))
    all_goals first | omega | exact h _
  | succ f ih =>
    intro k m x5 hk
    rw [e_48_39]
    have hc : 97 + k ≤ 256 := by omega
    have e9 : Int32.ofNat (97 + k) = sgI (97 + k) := (sgI_n (by omega)).symm
    simp (disch := omega) only [e_48_41, e_48_43, e_48_46, e_48_48, e_48_50, e_48_51, e_48_53, e_48_54, e_48_56, e_48_57, e_48_60, e_48_62, e_48_63, e_48_66, e_48_68, e_48_74, e_48_75, e_48_76, e_48_77, e_48_80, i_lit, i_add, i_mul, i_m1, i_lt, i_le, i_eq, i_cl, i_in, i_ltN, i_Nlt, i_leN, i_Nle, i_eN, i_Ne, i_inN, i_l1, i_l2, mj_cpok, mj_nn, reduceCtorEq, lg_self, Nat.not_lt_zero, Nat.zero_le, Nat.reduceEqDiff, Nat.reduceLT, Nat.reduceLeDiff, true_or, or_true, false_or, or_false, not_true_eq_false, not_false_eq_true, true_imp_iff, false_imp_iff, and_self, wrd, u2, and_true, true_and, and_false, false_and, and_self, ite_true, ite_false, reduceIte]
    (repeat' (first | (with_reducible refine And.intro ?_ ?_) | (with_reducible intro _)))
    all_goals try omega
    all_goals first
      | exact ih _ _ _ (by omega)
      | (rw [e9]
         refine c_54 hc (fun h' => ?_) (fun h' => ?_)
         all_goals
           simp (disch := omega) only [mK_v, e_48_71, e_48_75, e_48_76, e_48_77, e_48_80, i_lit, i_add, i_mul, i_m1, i_lt, i_le, i_eq, i_cl, i_in, i_ltN, i_Nlt, i_leN, i_Nle, i_eN, i_Ne, i_inN, i_l1, i_l2, mj_cpok, mj_nn, reduceCtorEq, lg_self, Nat.not_lt_zero, Nat.zero_le, Nat.reduceEqDiff, Nat.reduceLT, Nat.reduceLeDiff, true_or, or_true, false_or, or_false, not_true_eq_false, not_false_eq_true, true_imp_iff, false_imp_iff, and_self, wrd, u2, and_true, true_and, and_false, false_and, and_self, ite_true, ite_false, reduceIte]
           (repeat' (first | (with_reducible refine And.intro ?_ ?_) | (with_reducible intro _)))
           all_goals first | omega | exact ih _ _ _ (by omega))
end CL
