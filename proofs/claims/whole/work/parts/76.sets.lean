/-! build: the reference finds all sets of a mode. -/
theorem RuleOk_Fr {F : Nat → Nat → Prop} {R : Nat → Prop} {x y r : Nat} {w w' : MWd} (h : Fr F R x y w w') (hr : r < 12) (I : RuleOk w r) (hF : ∀ k a, 6 ≤ a → a < 42 → ¬ F k a) (hR : ∀ a, 6 ≤ a ∧ a < 42 ∨ 130 ≤ a ∧ a ≤ 142 → ¬ R a) : RuleOk w' r :=
  RuleOk_keep I (fun k _ _ => Fr_fi h (by omega) (hF k _ (by omega) (by omega))) (Fr_ai h (by omega) (hR _ (by omega))) (Fr_ai h (by omega) (hR _ (by omega))) (fun a _ _ _ _ => by rw [Fr_ai h (by omega) (hR _ (by omega))]) (fun p _ => by rw [Fr_ai h (by omega) (hR _ (by omega)), Fr_ai h (by omega) (hR _ (by omega))]; exact ⟨rfl, rfl⟩)
section RS
variable {d : Nat} {w : MWd} {Q : MRes → MWd → Prop}
theorem s_138 {nr m n s l : Nat} (G : Gr w) (hnr : nr ≤ 12) (hR : ∀ r, r < nr → RuleOk w r) (h1 : wFI w 644 128 = Int32.ofNat nr) (h2 : wFI w 669 128 = Int32.ofNat n) (hn0 : 1 ≤ n) (hn : n ≤ 100) (hs : s < n) (hl : l < 8) (hm : m < 4)
    (K0 : ∀ w', Fr (fun _ _ => False) (fun a => a = 155) 0 0 w w' → (∀ j, j < 12 * n → wAI w' 155 j = wAI w 155 j) → (∀ r, r < 12 → nxF w nr m s (fun q => wAI w 155 (12 * s + q)) l r = Int32.ofNat 0) → Q (.inl (some (vI NN))) w')
    (K1 : ∀ w' k, Fr (fun _ _ => False) (fun a => a = 155) 0 0 w w' → (∀ j, j < 12 * n → wAI w' 155 j = wAI w 155 j) → (∀ r, r < 12 → wAI w' 155 (12 * n + r) = nxF w nr m s (fun q => wAI w 155 (12 * s + q)) l r) → (¬ ∀ r, r < 12 → nxF w nr m s (fun q => wAI w 155 (12 * s + q)) l r = Int32.ofNat 0) →
      1 ≤ k → k ≤ n → (k < n → ∀ r, r < 12 → wAI w 155 (12 * k + r) = nxF w nr m s (fun q => wAI w 155 (12 * s + q)) l r) → (∀ j, 1 ≤ j → j < k → ¬ ∀ r, r < 12 → wAI w 155 (12 * j + r) = nxF w nr m s (fun q => wAI w 155 (12 * s + q)) l r) → Q (.inl (some (vI (Int32.ofNat k)))) w') :
    mR (d + 3) w 138 0 [some (vR (some (10, 0, 128))), some (vI (Int32.ofNat m)), some (vI (Int32.ofNat s)), some (vI (Int32.ofNat l)), none, none, none] [] Q := by
  have srch : ∀ (w' : MWd), Fr (fun _ _ => False) (fun a => a = 155) 0 0 w w' → (∀ j, j < 12 * n → wAI w' 155 j = wAI w 155 j) → (∀ r, r < 12 → wAI w' 155 (12 * n + r) = nxF w nr m s (fun q => wAI w 155 (12 * s + q)) l r) → (¬ ∀ r, r < 12 → nxF w nr m s (fun q => wAI w 155 (12 * s + q)) l r = Int32.ofNat 0) →
      ∀ (f k : Nat) (l6 : Option MV), k + f = n → 1 ≤ k → (∀ j, 1 ≤ j → j < k → ¬ ∀ r, r < 12 → wAI w 155 (12 * j + r) = nxF w nr m s (fun q => wAI w 155 (12 * s + q)) l r) →
      mR (d + 3) w' 138 97 [some (vR (some (10, 0, 128))), some (vI (Int32.ofNat m)), some (vI (Int32.ofNat s)), some (vI (Int32.ofNat l)), some (vI (Int32.ofNat 0)), some (vI (Int32.ofNat k)), l6] [] Q := by
    intro w' hF g1 g2 nz f
    have G' := Fr_Gr hF G
    have a669 : wFI w' 669 128 = Int32.ofNat n := (Fr_fi hF (by decide) (fun q => q)).trans h2
    have rowk : ∀ k, k < n → ((∀ r, r < 12 → wAI w' 155 (12 * k + r) = wAI w' 155 (12 * n + r)) ↔ ∀ r, r < 12 → wAI w 155 (12 * k + r) = nxF w nr m s (fun q => wAI w 155 (12 * s + q)) l r) := by
      intro k hk
      constructor
      · intro h r hr
        rw [← g1 _ (by omega), h r hr, g2 r hr]
      · intro h r hr
        rw [g1 _ (by omega), h r hr, g2 r hr]
    induction f with
    | zero =>
      intro k l6 hk hk1 h
      have he : k = n := by omega
      subst he
      rw [e_138_97]
      simp (disch := omega) only [e_138_0, e_138_1, e_138_3, e_138_4, e_138_8, e_138_10, e_138_13, e_138_15, e_138_16, e_138_19, e_138_22, e_138_23, e_138_26, e_138_28, e_138_29, e_138_30, e_138_33, e_138_34, e_138_35, e_138_37, e_138_38, e_138_41, e_138_44, e_138_45, e_138_47, e_138_48, e_138_51, e_138_53, e_138_54, e_138_57, e_138_58, e_138_60, e_138_61, e_138_63, e_138_64, e_138_66, e_138_69, e_138_71, e_138_74, e_138_75, e_138_78, e_138_79, e_138_81, e_138_84, e_138_87, e_138_89, e_138_92, e_138_93, e_138_94, e_138_95, e_138_98, e_138_100, e_138_101, e_138_104, e_138_107, e_138_110, e_138_113, e_138_116, e_138_118, i_lit, i_add, i_mul, i_m1, i_lt, i_le, i_eq, i_cl, i_in, i_ltN, i_Nlt, i_leN, i_Nle, i_eN, i_Ne, i_inN, i_l1, i_l2, mj_cpok, mj_nn, reduceCtorEq, lg_self, Nat.not_lt_zero, Nat.zero_le, Nat.reduceEqDiff, Nat.reduceLT, Nat.reduceLeDiff, true_or, or_true, false_or, or_false, not_true_eq_false, not_false_eq_true, true_imp_iff, false_imp_iff, and_self, wrd, u2, and_true, true_and, and_false, false_and, and_self, ite_true, ite_false, reduceIte, a669]
      refine s_139 G' (by omega) (by omega) (fun _ => ?_) (fun q => absurd (fun r _ => rfl) q)
      simp (disch := omega) only [mK_v, e_138_0, e_138_1, e_138_3, e_138_4, e_138_8, e_138_10, e_138_13, e_138_15, e_138_16, e_138_19, e_138_22, e_138_23, e_138_26, e_138_28, e_138_29, e_138_30, e_138_33, e_138_34, e_138_35, e_138_37, e_138_38, e_138_41, e_138_44, e_138_45, e_138_47, e_138_48, e_138_51, e_138_53, e_138_54, e_138_57, e_138_58, e_138_60, e_138_61, e_138_63, e_138_64, e_138_66, e_138_69, e_138_71, e_138_74, e_138_75, e_138_78, e_138_79, e_138_81, e_138_84, e_138_87, e_138_89, e_138_92, e_138_93, e_138_94, e_138_95, e_138_98, e_138_100, e_138_101, e_138_104, e_138_107, e_138_110, e_138_113, e_138_116, e_138_118, i_lit, i_add, i_mul, i_m1, i_lt, i_le, i_eq, i_cl, i_in, i_ltN, i_Nlt, i_leN, i_Nle, i_eN, i_Ne, i_inN, i_l1, i_l2, mj_cpok, mj_nn, reduceCtorEq, lg_self, Nat.not_lt_zero, Nat.zero_le, Nat.reduceEqDiff, Nat.reduceLT, Nat.reduceLeDiff, true_or, or_true, false_or, or_false, not_true_eq_false, not_false_eq_true, true_imp_iff, false_imp_iff, and_self, wrd, u2, and_true, true_and, and_false, false_and, and_self, ite_true, ite_false, reduceIte]
      exact K1 w' k hF g1 g2 nz hk1 (Nat.le_refl k) (fun q => absurd q (Nat.lt_irrefl k)) h
    | succ f ih =>
      intro k l6 hk hk1 h
      rw [e_138_97]
      simp (disch := omega) only [e_138_0, e_138_1, e_138_3, e_138_4, e_138_8, e_138_10, e_138_13, e_138_15, e_138_16, e_138_19, e_138_22, e_138_23, e_138_26, e_138_28, e_138_29, e_138_30, e_138_33, e_138_34, e_138_35, e_138_37, e_138_38, e_138_41, e_138_44, e_138_45, e_138_47, e_138_48, e_138_51, e_138_53, e_138_54, e_138_57, e_138_58, e_138_60, e_138_61, e_138_63, e_138_64, e_138_66, e_138_69, e_138_71, e_138_74, e_138_75, e_138_78, e_138_79, e_138_81, e_138_84, e_138_87, e_138_89, e_138_92, e_138_93, e_138_94, e_138_95, e_138_98, e_138_100, e_138_101, e_138_104, e_138_107, e_138_110, e_138_113, e_138_116, e_138_118, i_lit, i_add, i_mul, i_m1, i_lt, i_le, i_eq, i_cl, i_in, i_ltN, i_Nlt, i_leN, i_Nle, i_eN, i_Ne, i_inN, i_l1, i_l2, mj_cpok, mj_nn, reduceCtorEq, lg_self, Nat.not_lt_zero, Nat.zero_le, Nat.reduceEqDiff, Nat.reduceLT, Nat.reduceLeDiff, true_or, or_true, false_or, or_false, not_true_eq_false, not_false_eq_true, true_imp_iff, false_imp_iff, and_self, wrd, u2, and_true, true_and, and_false, false_and, and_self, ite_true, ite_false, reduceIte, a669]
      refine s_139 G' (by omega) (by omega) (fun q => ?_) (fun q => ?_)
      · simp (disch := omega) only [mK_v, e_138_0, e_138_1, e_138_3, e_138_4, e_138_8, e_138_10, e_138_13, e_138_15, e_138_16, e_138_19, e_138_22, e_138_23, e_138_26, e_138_28, e_138_29, e_138_30, e_138_33, e_138_34, e_138_35, e_138_37, e_138_38, e_138_41, e_138_44, e_138_45, e_138_47, e_138_48, e_138_51, e_138_53, e_138_54, e_138_57, e_138_58, e_138_60, e_138_61, e_138_63, e_138_64, e_138_66, e_138_69, e_138_71, e_138_74, e_138_75, e_138_78, e_138_79, e_138_81, e_138_84, e_138_87, e_138_89, e_138_92, e_138_93, e_138_94, e_138_95, e_138_98, e_138_100, e_138_101, e_138_104, e_138_107, e_138_110, e_138_113, e_138_116, e_138_118, i_lit, i_add, i_mul, i_m1, i_lt, i_le, i_eq, i_cl, i_in, i_ltN, i_Nlt, i_leN, i_Nle, i_eN, i_Ne, i_inN, i_l1, i_l2, mj_cpok, mj_nn, reduceCtorEq, lg_self, Nat.not_lt_zero, Nat.zero_le, Nat.reduceEqDiff, Nat.reduceLT, Nat.reduceLeDiff, true_or, or_true, false_or, or_false, not_true_eq_false, not_false_eq_true, true_imp_iff, false_imp_iff, and_self, wrd, u2, and_true, true_and, and_false, false_and, and_self, ite_true, ite_false, reduceIte]
        exact K1 w' k hF g1 g2 nz hk1 (by omega) (fun hk' => (rowk k hk').mp q) h
      · simp (disch := omega) only [mK_v, e_138_0, e_138_1, e_138_3, e_138_4, e_138_8, e_138_10, e_138_13, e_138_15, e_138_16, e_138_19, e_138_22, e_138_23, e_138_26, e_138_28, e_138_29, e_138_30, e_138_33, e_138_34, e_138_35, e_138_37, e_138_38, e_138_41, e_138_44, e_138_45, e_138_47, e_138_48, e_138_51, e_138_53, e_138_54, e_138_57, e_138_58, e_138_60, e_138_61, e_138_63, e_138_64, e_138_66, e_138_69, e_138_71, e_138_74, e_138_75, e_138_78, e_138_79, e_138_81, e_138_84, e_138_87, e_138_89, e_138_92, e_138_93, e_138_94, e_138_95, e_138_98, e_138_100, e_138_101, e_138_104, e_138_107, e_138_110, e_138_113, e_138_116, e_138_118, i_lit, i_add, i_mul, i_m1, i_lt, i_le, i_eq, i_cl, i_in, i_ltN, i_Nlt, i_leN, i_Nle, i_eN, i_Ne, i_inN, i_l1, i_l2, mj_cpok, mj_nn, reduceCtorEq, lg_self, Nat.not_lt_zero, Nat.zero_le, Nat.reduceEqDiff, Nat.reduceLT, Nat.reduceLeDiff, true_or, or_true, false_or, or_false, not_true_eq_false, not_false_eq_true, true_imp_iff, false_imp_iff, and_self, wrd, u2, and_true, true_and, and_false, false_and, and_self, ite_true, ite_false, reduceIte]
        refine ih (k + 1) l6 (by omega) (by omega) (fun j hj1 hj2 => ?_)
        by_cases hjk : j = k
        · subst hjk; exact fun q' => q ((rowk j (by omega)).mpr q')
        · exact h j hj1 (by omega)
  have loop : ∀ (f r : Nat) (y : Int32) (w' : MWd) (l6 : Option MV), r + f = 12 → Fr (fun _ _ => False) (fun a => a = 155) 0 0 w w' → (∀ j, j < 12 * n → wAI w' 155 j = wAI w 155 j) → (∀ q, q < r → wAI w' 155 (12 * n + q) = nxF w nr m s (fun q => wAI w 155 (12 * s + q)) l q) →
      (y = Int32.ofNat 1 ∧ (∀ q, q < r → nxF w nr m s (fun q => wAI w 155 (12 * s + q)) l q = Int32.ofNat 0) ∨ y = Int32.ofNat 0 ∧ ¬ ∀ q, q < r → nxF w nr m s (fun q => wAI w 155 (12 * s + q)) l q = Int32.ofNat 0) →
      mR (d + 3) w' 138 6 [some (vR (some (10, 0, 128))), some (vI (Int32.ofNat m)), some (vI (Int32.ofNat s)), some (vI (Int32.ofNat l)), some (vI y), some (vI (Int32.ofNat r)), l6] [] Q := by
    intro f
    induction f with
    | zero =>
      intro r y w' l6 hr hF g1 g2 g3
      have he : r = 12 := by omega
      subst he
      rw [e_138_6]
      rcases g3 with ⟨rfl, g3⟩ | ⟨rfl, g3⟩
      · simp (disch := omega) only [e_138_0, e_138_1, e_138_3, e_138_4, e_138_8, e_138_10, e_138_13, e_138_15, e_138_16, e_138_19, e_138_22, e_138_23, e_138_26, e_138_28, e_138_29, e_138_30, e_138_33, e_138_34, e_138_35, e_138_37, e_138_38, e_138_41, e_138_44, e_138_45, e_138_47, e_138_48, e_138_51, e_138_53, e_138_54, e_138_57, e_138_58, e_138_60, e_138_61, e_138_63, e_138_64, e_138_66, e_138_69, e_138_71, e_138_74, e_138_75, e_138_78, e_138_79, e_138_81, e_138_84, e_138_87, e_138_89, e_138_92, e_138_93, e_138_94, e_138_95, e_138_98, e_138_100, e_138_101, e_138_104, e_138_107, e_138_110, e_138_113, e_138_116, e_138_118, i_lit, i_add, i_mul, i_m1, i_lt, i_le, i_eq, i_cl, i_in, i_ltN, i_Nlt, i_leN, i_Nle, i_eN, i_Ne, i_inN, i_l1, i_l2, mj_cpok, mj_nn, reduceCtorEq, lg_self, Nat.not_lt_zero, Nat.zero_le, Nat.reduceEqDiff, Nat.reduceLT, Nat.reduceLeDiff, true_or, or_true, false_or, or_false, not_true_eq_false, not_false_eq_true, true_imp_iff, false_imp_iff, and_self, wrd, u2, and_true, true_and, and_false, false_and, and_self, ite_true, ite_false, reduceIte]
        (repeat' (first | (with_reducible refine And.intro ?_ ?_) | (with_reducible intro _)))
        all_goals first | omega | exact K0 w' hF g1 g3
      · simp (disch := omega) only [e_138_0, e_138_1, e_138_3, e_138_4, e_138_8, e_138_10, e_138_13, e_138_15, e_138_16, e_138_19, e_138_22, e_138_23, e_138_26, e_138_28, e_138_29, e_138_30, e_138_33, e_138_34, e_138_35, e_138_37, e_138_38, e_138_41, e_138_44, e_138_45, e_138_47, e_138_48, e_138_51, e_138_53, e_138_54, e_138_57, e_138_58, e_138_60, e_138_61, e_138_63, e_138_64, e_138_66, e_138_69, e_138_71, e_138_74, e_138_75, e_138_78, e_138_79, e_138_81, e_138_84, e_138_87, e_138_89, e_138_92, e_138_93, e_138_94, e_138_95, e_138_98, e_138_100, e_138_101, e_138_104, e_138_107, e_138_110, e_138_113, e_138_116, e_138_118, i_lit, i_add, i_mul, i_m1, i_lt, i_le, i_eq, i_cl, i_in, i_ltN, i_Nlt, i_leN, i_Nle, i_eN, i_Ne, i_inN, i_l1, i_l2, mj_cpok, mj_nn, reduceCtorEq, lg_self, Nat.not_lt_zero, Nat.zero_le, Nat.reduceEqDiff, Nat.reduceLT, Nat.reduceLeDiff, true_or, or_true, false_or, or_false, not_true_eq_false, not_false_eq_true, true_imp_iff, false_imp_iff, and_self, wrd, u2, and_true, true_and, and_false, false_and, and_self, ite_true, ite_false, reduceIte]
        (repeat' (first | (with_reducible refine And.intro ?_ ?_) | (with_reducible intro _)))
        all_goals first | omega | exact srch w' hF g1 g2 g3 (n - 1) 1 l6 (by omega) (by omega) (fun j h1 h2 => by omega)
    | succ f ih =>
      intro r y w' l6 hr hF g1 g2 g3
      have G' := Fr_Gr hF G
      have a644 : wFI w' 644 128 = Int32.ofNat nr := (Fr_fi hF (by decide) (fun q => q)).trans h1
      have a669 : wFI w' 669 128 = Int32.ofNat n := (Fr_fi hF (by decide) (fun q => q)).trans h2
      have fin : ∀ (v : Int32), v = nxF w nr m s (fun q => wAI w 155 (12 * s + q)) l r →
          mR (d + 3) w' 138 47 [some (vR (some (10, 0, 128))), some (vI (Int32.ofNat m)), some (vI (Int32.ofNat s)), some (vI (Int32.ofNat l)), some (vI y), some (vI (Int32.ofNat r)), some (vI v)] [] Q := by
        intro v hv
        have nxt : ∀ (y' : Int32), (y' = Int32.ofNat 1 ∧ (∀ q, q < r + 1 → nxF w nr m s (fun q => wAI w 155 (12 * s + q)) l q = Int32.ofNat 0) ∨ y' = Int32.ofNat 0 ∧ ¬ ∀ q, q < r + 1 → nxF w nr m s (fun q => wAI w 155 (12 * s + q)) l q = Int32.ofNat 0) →
            mR (d + 3) (sAI w' 155 (12 * n + r) v) 138 6 [some (vR (some (10, 0, 128))), some (vI (Int32.ofNat m)), some (vI (Int32.ofNat s)), some (vI (Int32.ofNat l)), some (vI y'), some (vI (Int32.ofNat (r + 1))), some (vI v)] [] Q := by
          intro y' hy
          refine ih (r + 1) y' _ _ (by omega) (Fr_sAI hF (Or.inl rfl)) (fun j hj => ?_) (fun q hq => ?_) hy
          · simp only [mj_cpok, mj_nn, reduceCtorEq, lg_self, Nat.not_lt_zero, Nat.zero_le, Nat.reduceEqDiff, Nat.reduceLT, Nat.reduceLeDiff, true_or, or_true, false_or, or_false, not_true_eq_false, not_false_eq_true, true_imp_iff, false_imp_iff, and_self, wrd, u2, and_true, true_and, and_false, false_and, and_self, ite_true, ite_false, reduceIte]
            rw [if_neg (by omega)]; exact g1 j hj
          · simp only [mj_cpok, mj_nn, reduceCtorEq, lg_self, Nat.not_lt_zero, Nat.zero_le, Nat.reduceEqDiff, Nat.reduceLT, Nat.reduceLeDiff, true_or, or_true, false_or, or_false, not_true_eq_false, not_false_eq_true, true_imp_iff, false_imp_iff, and_self, wrd, u2, and_true, true_and, and_false, false_and, and_self, ite_true, ite_false, reduceIte]
            by_cases hqr : q = r
            · subst hqr; rw [if_pos rfl]; exact hv
            · rw [if_neg (by omega)]; exact g2 q (by omega)
        rcases g3 with ⟨rfl, g3⟩ | ⟨rfl, g3⟩
        · by_cases hv0 : v = Int32.ofNat 0
          · have nx1 := nxt (Int32.ofNat 1) (Or.inl ⟨rfl, fun q hq => by
              by_cases hqr : q = r
              · subst hqr; rw [← hv]; exact hv0
              · exact g3 q (by omega)⟩)
            simp (disch := omega) only [e_138_0, e_138_1, e_138_3, e_138_4, e_138_8, e_138_10, e_138_13, e_138_15, e_138_16, e_138_19, e_138_22, e_138_23, e_138_26, e_138_28, e_138_29, e_138_30, e_138_33, e_138_34, e_138_35, e_138_37, e_138_38, e_138_41, e_138_44, e_138_45, e_138_47, e_138_48, e_138_51, e_138_53, e_138_54, e_138_57, e_138_58, e_138_60, e_138_61, e_138_63, e_138_64, e_138_66, e_138_69, e_138_71, e_138_74, e_138_75, e_138_78, e_138_79, e_138_81, e_138_84, e_138_87, e_138_89, e_138_92, e_138_93, e_138_94, e_138_95, e_138_98, e_138_100, e_138_101, e_138_104, e_138_107, e_138_110, e_138_113, e_138_116, e_138_118, i_lit, i_add, i_mul, i_m1, i_lt, i_le, i_eq, i_cl, i_in, i_ltN, i_Nlt, i_leN, i_Nle, i_eN, i_Ne, i_inN, i_l1, i_l2, mj_cpok, mj_nn, reduceCtorEq, lg_self, Nat.not_lt_zero, Nat.zero_le, Nat.reduceEqDiff, Nat.reduceLT, Nat.reduceLeDiff, true_or, or_true, false_or, or_false, not_true_eq_false, not_false_eq_true, true_imp_iff, false_imp_iff, and_self, wrd, u2, and_true, true_and, and_false, false_and, and_self, ite_true, ite_false, reduceIte, a669, g_670 G', hv0]
            rw [hv0] at nx1
            (repeat' (first | (with_reducible refine And.intro ?_ ?_) | (with_reducible intro _)))
            all_goals first | omega | exact nx1
          · have nx1 := nxt (Int32.ofNat 0) (Or.inr ⟨rfl, fun q => hv0 (hv.trans (q r (by omega)))⟩)
            simp (disch := omega) only [e_138_0, e_138_1, e_138_3, e_138_4, e_138_8, e_138_10, e_138_13, e_138_15, e_138_16, e_138_19, e_138_22, e_138_23, e_138_26, e_138_28, e_138_29, e_138_30, e_138_33, e_138_34, e_138_35, e_138_37, e_138_38, e_138_41, e_138_44, e_138_45, e_138_47, e_138_48, e_138_51, e_138_53, e_138_54, e_138_57, e_138_58, e_138_60, e_138_61, e_138_63, e_138_64, e_138_66, e_138_69, e_138_71, e_138_74, e_138_75, e_138_78, e_138_79, e_138_81, e_138_84, e_138_87, e_138_89, e_138_92, e_138_93, e_138_94, e_138_95, e_138_98, e_138_100, e_138_101, e_138_104, e_138_107, e_138_110, e_138_113, e_138_116, e_138_118, i_lit, i_add, i_mul, i_m1, i_lt, i_le, i_eq, i_cl, i_in, i_ltN, i_Nlt, i_leN, i_Nle, i_eN, i_Ne, i_inN, i_l1, i_l2, mj_cpok, mj_nn, reduceCtorEq, lg_self, Nat.not_lt_zero, Nat.zero_le, Nat.reduceEqDiff, Nat.reduceLT, Nat.reduceLeDiff, true_or, or_true, false_or, or_false, not_true_eq_false, not_false_eq_true, true_imp_iff, false_imp_iff, and_self, wrd, u2, and_true, true_and, and_false, false_and, and_self, ite_true, ite_false, reduceIte, a669, g_670 G', hv0]
            (repeat' (first | (with_reducible refine And.intro ?_ ?_) | (with_reducible intro _)))
            all_goals first | omega | exact nx1
        · have nx1 := nxt (Int32.ofNat 0) (Or.inr ⟨rfl, fun q => g3 fun x hx => q x (by omega)⟩)
          simp (disch := omega) only [e_138_0, e_138_1, e_138_3, e_138_4, e_138_8, e_138_10, e_138_13, e_138_15, e_138_16, e_138_19, e_138_22, e_138_23, e_138_26, e_138_28, e_138_29, e_138_30, e_138_33, e_138_34, e_138_35, e_138_37, e_138_38, e_138_41, e_138_44, e_138_45, e_138_47, e_138_48, e_138_51, e_138_53, e_138_54, e_138_57, e_138_58, e_138_60, e_138_61, e_138_63, e_138_64, e_138_66, e_138_69, e_138_71, e_138_74, e_138_75, e_138_78, e_138_79, e_138_81, e_138_84, e_138_87, e_138_89, e_138_92, e_138_93, e_138_94, e_138_95, e_138_98, e_138_100, e_138_101, e_138_104, e_138_107, e_138_110, e_138_113, e_138_116, e_138_118, i_lit, i_add, i_mul, i_m1, i_lt, i_le, i_eq, i_cl, i_in, i_ltN, i_Nlt, i_leN, i_Nle, i_eN, i_Ne, i_inN, i_l1, i_l2, mj_cpok, mj_nn, reduceCtorEq, lg_self, Nat.not_lt_zero, Nat.zero_le, Nat.reduceEqDiff, Nat.reduceLT, Nat.reduceLeDiff, true_or, or_true, false_or, or_false, not_true_eq_false, not_false_eq_true, true_imp_iff, false_imp_iff, and_self, wrd, u2, and_true, true_and, and_false, false_and, and_self, ite_true, ite_false, reduceIte, a669, g_670 G']
          (repeat' (first | (with_reducible refine And.intro ?_ ?_) | (with_reducible intro _)))
          all_goals first | omega | exact nx1
      rw [e_138_6]
      by_cases hr1 : r < nr
      · have hRr := hR r hr1
        obtain ⟨np, tp, hA, hB, -⟩ := RuleOk_Fr hF (by omega) hRr (fun _ _ _ _ q => q) (fun a h q => by omega)
        obtain ⟨m', hm', em1, em2⟩ := hA.2.2.1
        have a322 : wFI w' 322 (6 + 3 * r) = wFI w 322 (6 + 3 * r) := Fr_fi hF (by omega) (fun q => q)
        have a328 : wFI w' 328 (6 + 3 * r) = wFI w 328 (6 + 3 * r) := Fr_fi hF (by omega) (fun q => q)
        have a7 : wAI w' (7 + 3 * r) = wAI w (7 + 3 * r) := Fr_ai hF (by omega) (by omega)
        have a8 : wAI w' (8 + 3 * r) = wAI w (8 + 3 * r) := Fr_ai hF (by omega) (by omega)
        by_cases hmm : m' = m
        · subst hmm
          simp (disch := omega) only [e_138_8, e_138_10, e_138_13, e_138_15, e_138_16, e_138_19, e_138_22, e_138_23, e_138_26, e_138_28, e_138_29, e_138_30, e_138_33, e_138_34, e_138_35, e_138_37, e_138_38, i_lit, i_add, i_mul, i_m1, i_lt, i_le, i_eq, i_cl, i_in, i_ltN, i_Nlt, i_leN, i_Nle, i_eN, i_Ne, i_inN, i_l1, i_l2, mj_cpok, mj_nn, reduceCtorEq, lg_self, Nat.not_lt_zero, Nat.zero_le, Nat.reduceEqDiff, Nat.reduceLT, Nat.reduceLeDiff, true_or, or_true, false_or, or_false, not_true_eq_false, not_false_eq_true, true_imp_iff, false_imp_iff, and_self, wrd, u2, and_true, true_and, and_false, false_and, and_self, ite_true, ite_false, reduceIte, a644, em2, g_645 G']
          (repeat' (first | (with_reducible refine And.intro ?_ ?_) | (with_reducible intro _)))
          all_goals try omega
          refine s_137 G' (by omega) hA hB hl (by omega) ?_
          simp (disch := omega) only [mK_v, e_138_41, e_138_45]
          refine fin _ ?_
          unfold nxF bhF
          have c2 : r < nr ∧ wFI w 322 (6 + 3 * r) = Int32.ofNat m' := ⟨hr1, by rw [← a322, em1]⟩
          have c1 : r < nr ∧ l < 8 := ⟨hr1, hl⟩
          rw [a328, a7, a8, g1 (12 * s + r) (by omega), if_pos c1, if_pos c2]
        · have fz := fin (Int32.ofNat 0) (by
            unfold nxF bhF
            rw [if_pos ⟨hr1, hl⟩, if_neg (fun q => hmm (by
              have q2 := q.2
              rw [← a322, em1, i_eq (by omega) (by omega)] at q2; exact q2))]
            exact (bt_ext fun p hp => by rw [bt_and, bt_0, Bool.false_and]).symm)
          simp (disch := omega) only [e_138_8, e_138_10, e_138_13, e_138_15, e_138_16, e_138_19, e_138_22, e_138_23, e_138_26, e_138_28, e_138_29, e_138_30, e_138_44, e_138_45, i_lit, i_add, i_mul, i_m1, i_lt, i_le, i_eq, i_cl, i_in, i_ltN, i_Nlt, i_leN, i_Nle, i_eN, i_Ne, i_inN, i_l1, i_l2, mj_cpok, mj_nn, reduceCtorEq, lg_self, Nat.not_lt_zero, Nat.zero_le, Nat.reduceEqDiff, Nat.reduceLT, Nat.reduceLeDiff, true_or, or_true, false_or, or_false, not_true_eq_false, not_false_eq_true, true_imp_iff, false_imp_iff, and_self, wrd, u2, and_true, true_and, and_false, false_and, and_self, ite_true, ite_false, reduceIte, a644, em2, g_645 G']
          (repeat' (first | (with_reducible refine And.intro ?_ ?_) | (with_reducible intro _)))
          all_goals first | omega | exact fz
      · have fz := fin (Int32.ofNat 0) (by unfold nxF; rw [if_neg (fun q => hr1 q.1)])
        simp (disch := omega) only [e_138_8, e_138_10, e_138_13, e_138_15, e_138_16, e_138_19, e_138_44, e_138_45, i_lit, i_add, i_mul, i_m1, i_lt, i_le, i_eq, i_cl, i_in, i_ltN, i_Nlt, i_leN, i_Nle, i_eN, i_Ne, i_inN, i_l1, i_l2, mj_cpok, mj_nn, reduceCtorEq, lg_self, Nat.not_lt_zero, Nat.zero_le, Nat.reduceEqDiff, Nat.reduceLT, Nat.reduceLeDiff, true_or, or_true, false_or, or_false, not_true_eq_false, not_false_eq_true, true_imp_iff, false_imp_iff, and_self, wrd, u2, and_true, true_and, and_false, false_and, and_self, ite_true, ite_false, reduceIte, a644]
        (repeat' (first | (with_reducible refine And.intro ?_ ?_) | (with_reducible intro _)))
        all_goals first | omega | exact fz
  rw [e_138_0, e_138_1, e_138_3, e_138_4]
  exact loop 12 0 _ w none (by omega) Fr_refl (fun _ _ => rfl) (fun q hq => absurd hq (Nat.not_lt_zero q)) (Or.inl ⟨rfl, fun q hq => absurd hq (Nat.not_lt_zero q)⟩)
end RS
