/-! scan: the reference notes what it cut. -/
section SC
variable {d : Nat} {w : MWd} {Q : MRes → MWd → Prop}
theorem s_156 {c p md k : Nat} {x : Int32} (G : Gr w) (hc : c ≤ 500) (h1 : wFI w 678 128 = Int32.ofNat c)
    (K1 : ∀ W, c < 500 → Fr (fun k a => k = 678 ∧ a = 128) (fun a => a = 163) 1 4 w W → wFI W 678 128 = Int32.ofNat (c + 1) → (∀ F : Nat → Int32, (∀ i, i < 4 * c → wAI w 163 i = F i) → ∀ i, i < 4 * (c + 1) → wAI W 163 i = putT F c x (Int32.ofNat p) (Int32.ofNat k) (Int32.ofNat md) i) → Q (.inl (some (vI (Int32.ofNat 1)))) W)
    (K0 : c = 500 → Q (.inl (some (vI (Int32.ofNat 0)))) w) :
    mR d w 156 0 [some (vR (some (10, 0, 128))), some (vI x), some (vI (Int32.ofNat p)), some (vI (Int32.ofNat k)), some (vI (Int32.ofNat md)), none] [] Q := by
  have hN : 167 ≤ wN w := G.1
  by_cases h5 : c = 500
  · have k0 := K0 h5
    subst h5
    simp (disch := omega) only [e_156_0, e_156_1, e_156_4, e_156_7, e_156_10, e_156_11, e_156_12, e_156_13, e_156_15, e_156_16, e_156_17, e_156_18, e_156_19, e_156_20, e_156_21, e_156_22, e_156_23, e_156_24, e_156_25, e_156_26, e_156_27, e_156_28, e_156_29, e_156_31, e_156_32, e_156_34, e_156_36, e_156_37, e_156_38, e_156_41, e_156_42, e_156_43, e_156_46, e_156_47, e_156_48, e_156_48J, e_156_51, e_156_52, e_156_53, e_156_56, e_156_57, e_156_58, e_156_61, e_156_62, i_lit, i_add, i_mul, i_m1, i_lt, i_le, i_eq, i_cl, i_in, i_ltN, i_Nlt, i_leN, i_Nle, i_eN, i_Ne, i_inN, i_l1, i_l2, mj_cpok, mj_nn, reduceCtorEq, lg_self, Nat.not_lt_zero, Nat.zero_le, Nat.reduceEqDiff, Nat.reduceLT, Nat.reduceLeDiff, true_or, or_true, false_or, or_false, not_true_eq_false, not_false_eq_true, true_imp_iff, false_imp_iff, and_self, wrd, u2, and_true, true_and, and_false, false_and, and_self, ite_true, ite_false, reduceIte, h1]
    (repeat' (first | (with_reducible refine And.intro ?_ ?_) | (with_reducible intro _)))
    all_goals first | omega | exact k0
  · have hne : ¬ (163 = wN w) := by omega
    have k1 := K1 (sFI (cpI (sAI (sAI (sAI (sAI (nwA w 4) (wN w) 0 x) (wN w) 1 (Int32.ofNat p)) (wN w) 2 (Int32.ofNat k)) (wN w) 3 (Int32.ofNat md)) (wN w) 0 163 (4 * c) 4) 678 128 (Int32.ofNat (c + 1))) (by omega)
      (Fr_sFI (Fr_cpI (Fr_sAI (Fr_sAI (Fr_sAI (Fr_sAI (Fr_nwA hN Fr_refl) (Or.inr hN)) (Or.inr hN)) (Or.inr hN)) (Or.inr hN)) (Or.inl rfl)) (Or.inl ⟨rfl, rfl⟩)) (by simp only [mj_cpok, mj_nn, reduceCtorEq, lg_self, Nat.not_lt_zero, Nat.zero_le, Nat.reduceEqDiff, Nat.reduceLT, Nat.reduceLeDiff, true_or, or_true, false_or, or_false, not_true_eq_false, not_false_eq_true, true_imp_iff, false_imp_iff, and_self, wrd, u2, and_true, true_and, and_false, false_and, and_self, ite_true, ite_false, reduceIte]) (fun F hF i hi => by
        simp only [mj_cpok, mj_nn, reduceCtorEq, lg_self, Nat.not_lt_zero, Nat.zero_le, Nat.reduceEqDiff, Nat.reduceLT, Nat.reduceLeDiff, true_or, or_true, false_or, or_false, not_true_eq_false, not_false_eq_true, true_imp_iff, false_imp_iff, and_self, wrd, u2, and_true, true_and, and_false, false_and, and_self, ite_true, ite_false, reduceIte, hne]
        unfold putT
        by_cases hi4 : 4 * c ≤ i
        · rw [if_pos ⟨hi4, by omega⟩]
          by_cases i3 : i = 4 * c + 3
          · rw [if_pos (by omega), if_neg (by omega), if_neg (by omega), if_neg (by omega), if_pos i3]
          · rw [if_neg (by omega)]
            by_cases i2 : i = 4 * c + 2
            · rw [if_pos (by omega), if_neg (by omega), if_neg (by omega), if_pos i2]
            · rw [if_neg (by omega)]
              by_cases i1 : i = 4 * c + 1
              · rw [if_pos (by omega), if_neg (by omega), if_pos i1]
              · rw [if_neg (by omega), if_pos (by omega), if_pos (by omega)]
        · rw [if_neg (by omega), if_neg (by omega), if_neg (by omega), if_neg (by omega), if_neg (by omega)]
          exact hF i (by omega))
    simp (disch := omega) only [e_156_0, e_156_1, e_156_4, e_156_7, e_156_10, e_156_11, e_156_12, e_156_13, e_156_15, e_156_16, e_156_17, e_156_18, e_156_19, e_156_20, e_156_21, e_156_22, e_156_23, e_156_24, e_156_25, e_156_26, e_156_27, e_156_28, e_156_29, e_156_31, e_156_32, e_156_34, e_156_36, e_156_37, e_156_38, e_156_41, e_156_42, e_156_43, e_156_46, e_156_47, e_156_48, e_156_48J, e_156_51, e_156_52, e_156_53, e_156_56, e_156_57, e_156_58, e_156_61, e_156_62, i_lit, i_add, i_mul, i_m1, i_lt, i_le, i_eq, i_cl, i_in, i_ltN, i_Nlt, i_leN, i_Nle, i_eN, i_Ne, i_inN, i_l1, i_l2, mj_cpok, mj_nn, reduceCtorEq, lg_self, Nat.not_lt_zero, Nat.zero_le, Nat.reduceEqDiff, Nat.reduceLT, Nat.reduceLeDiff, true_or, or_true, false_or, or_false, not_true_eq_false, not_false_eq_true, true_imp_iff, false_imp_iff, and_self, wrd, u2, and_true, true_and, and_false, false_and, and_self, ite_true, ite_false, reduceIte, g_679 G, h1]
    (repeat' (first | (with_reducible refine And.intro ?_ ?_) | (with_reducible intro _)))
    all_goals first | omega | exact k1
end SC
