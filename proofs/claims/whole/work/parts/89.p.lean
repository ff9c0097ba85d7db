/-! scan: the reference finds the longest piece. -/
section SC
variable {d : Nat} {w : MWd} {Q : MRes → MWd → Prop}
theorem s_161f {m N n p : Nat} {mv an : Nat → Option Nat} {B : Nat → Nat} {x3 x4 x5 : Int32} (G : Gr w) (hm : m < 4) (hA : RefA w m N mv an) (h6 : ∀ t a, t < 8 * N → mv t = some a → a < N) (hb : ∀ s q, s < N → an s = some q → q < 12) (hn : n ≤ 1000) (h1 : wFI w 642 128 = Int32.ofNat n)
    (hB : ∀ i, i < n → B i < 256 ∧ wAI w 129 i = Int32.ofNat (B i)) (hp : p ≤ n)
    (K : ∀ x8 x9 : Int32, mR (d + 2) w 161 175 [some (vR (some (10, 0, 128))), some (vI (Int32.ofNat m)), some (vI (Int32.ofNat p)), some (vI x3), some (vI x4), some (vI x5), some (vI (en (pcs N mv an B p (n - p)).1)), some (vI (Int32.ofNat (p + (pcs N mv an B p (n - p)).2))), some (vI x8), some (vI x9)] [] Q) :
    ∀ f j, j + f = n - p → mR (d + 2) w 161 73 [some (vR (some (10, 0, 128))), some (vI (Int32.ofNat m)), some (vI (Int32.ofNat p)), some (vI x3), some (vI x4), some (vI x5), some (vI (en (pcs N mv an B p j).1)), some (vI (Int32.ofNat (p + (pcs N mv an B p j).2))), some (vI (en (pq N mv B p j))), some (vI (Int32.ofNat (p + j)))] [] Q := by
  obtain ⟨hN, a1, a2, a3⟩ := hA
  intro f
  induction f with
  | zero =>
    intro j hj
    have he : j = n - p := by omega
    subst he
    have k0 := K (en (pq N mv B p (n - p))) (Int32.ofNat (p + (n - p)))
    rw [e_161_73]
    simp (disch := omega) only [e_161_75, e_161_76, e_161_79, i_lit, i_add, i_mul, i_m1, i_lt, i_le, i_eq, i_cl, i_in, i_ltN, i_Nlt, i_leN, i_Nle, i_eN, i_Ne, i_inN, i_l1, i_l2, mj_cpok, mj_nn, reduceCtorEq, lg_self, Nat.not_lt_zero, Nat.zero_le, Nat.reduceEqDiff, Nat.reduceLT, Nat.reduceLeDiff, true_or, or_true, false_or, or_false, not_true_eq_false, not_false_eq_true, true_imp_iff, false_imp_iff, and_self, wrd, u2, and_true, true_and, and_false, false_and, and_self, ite_true, ite_false, reduceIte, h1]
    (repeat' (first | (with_reducible refine And.intro ?_ ?_) | (with_reducible intro _)))
    all_goals first | omega | exact k0
  | succ f ih =>
    intro j hj
    have hBj := hB (p + j) (by omega)
    obtain ⟨hB1, hB2⟩ := hBj
    rw [e_161_73]
    cases hq : pq N mv B p j with
    | none =>
      have hpe := pcs_none (an := an) hq (n - p - j)
      rw [show j + (n - p - j) = n - p by omega] at hpe
      have k0 := K NN (Int32.ofNat (p + j))
      rw [hpe] at k0
      show mR _ w 161 75 _ _ _
      simp (disch := omega) only [en, e_161_75, e_161_76, e_161_79, e_161_82, e_161_84, e_161_85, i_lit, i_add, i_mul, i_m1, i_lt, i_le, i_eq, i_cl, i_in, i_ltN, i_Nlt, i_leN, i_Nle, i_eN, i_Ne, i_inN, i_l1, i_l2, mj_cpok, mj_nn, reduceCtorEq, lg_self, Nat.not_lt_zero, Nat.zero_le, Nat.reduceEqDiff, Nat.reduceLT, Nat.reduceLeDiff, true_or, or_true, false_or, or_false, not_true_eq_false, not_false_eq_true, true_imp_iff, false_imp_iff, and_self, wrd, u2, and_true, true_and, and_false, false_and, and_self, ite_true, ite_false, reduceIte, h1]
      (repeat' (first | (with_reducible refine And.intro ?_ ?_) | (with_reducible intro _)))
      all_goals first | omega | exact k0
    | some s =>
      have hs := pq_lt h6 hq
      have dead : pq N mv B p (j + 1) = none → mR (d + 2) w 161 124 [some (vR (some (10, 0, 128))), some (vI (Int32.ofNat m)), some (vI (Int32.ofNat p)), some (vI x3), some (vI x4), some (vI x5), some (vI (en (pcs N mv an B p j).1)), some (vI (Int32.ofNat (p + (pcs N mv an B p j).2))), some (vI NN), some (vI (Int32.ofNat (p + j)))] [] Q := by
        intro hq1
        have hpe : pcs N mv an B p (j + 1) = pcs N mv an B p j := by
          show (match pq N mv B p (j + 1) with | none => pcs N mv an B p j | some s => _) = _
          rw [hq1]
        have nn := ih (j + 1) (by omega)
        rw [hpe, hq1] at nn
        simp (disch := omega) only [e_161_124, e_161_126, e_161_127, e_161_169, e_161_172, i_lit, i_add, i_mul, i_m1, i_lt, i_le, i_eq, i_cl, i_in, i_ltN, i_Nlt, i_leN, i_Nle, i_eN, i_Ne, i_inN, i_l1, i_l2, mj_cpok, mj_nn, reduceCtorEq, lg_self, Nat.not_lt_zero, Nat.zero_le, Nat.reduceEqDiff, Nat.reduceLT, Nat.reduceLeDiff, true_or, or_true, false_or, or_false, not_true_eq_false, not_false_eq_true, true_imp_iff, false_imp_iff, and_self, wrd, u2, and_true, true_and, and_false, false_and, and_self, ite_true, ite_false, reduceIte]
        (repeat' (first | (with_reducible refine And.intro ?_ ?_) | (with_reducible intro _)))
        all_goals first | omega | exact nn
      cases hl : ltO (B (p + j)) with
      | none =>
        have hq1 : pq N mv B p (j + 1) = none := by
          show mvO mv (pq N mv B p j) (ltO (B (p + j))) = none
          rw [hq, hl]; rfl
        have hno : ¬ (97 ≤ B (p + j) ∧ B (p + j) < 105) := by
          intro h; unfold ltO at hl; rw [if_pos h] at hl; cases hl
        have nn := dead hq1
        show mR _ w 161 75 _ _ _
        simp (disch := omega) only [en, e_161_75, e_161_76, e_161_79, e_161_82, e_161_84, e_161_85, e_161_88, e_161_89, e_161_92, e_161_94, e_161_95, e_116_0, e_116_1, e_116_3, e_116_5, e_116_8, e_111_0, e_111_1, e_111_2, e_111_5, e_111_6, e_111_7, e_111_10, e_111_11, e_111_14, e_111_15, e_161_98, e_161_121, e_161_122, mK_v, i_lit, i_add, i_mul, i_m1, i_lt, i_le, i_eq, i_cl, i_in, i_ltN, i_Nlt, i_leN, i_Nle, i_eN, i_Ne, i_inN, i_l1, i_l2, mj_cpok, mj_nn, reduceCtorEq, lg_self, Nat.not_lt_zero, Nat.zero_le, Nat.reduceEqDiff, Nat.reduceLT, Nat.reduceLeDiff, true_or, or_true, false_or, or_false, not_true_eq_false, not_false_eq_true, true_imp_iff, false_imp_iff, and_self, wrd, u2, and_true, true_and, and_false, false_and, and_self, ite_true, ite_false, reduceIte, h1, g_641 G, hB2]
        (repeat' (first | (with_reducible refine And.intro ?_ ?_) | (with_reducible intro _)))
        all_goals first | omega | exact nn
      | some l =>
        obtain ⟨hl8, hlB⟩ := ltO_lt hl
        have hq1 : pq N mv B p (j + 1) = mv (8 * s + l) := by
          show mvO mv (pq N mv B p j) (ltO (B (p + j))) = _
          rw [hq, hl]; rfl
        have hsub : Int32.ofNat (97 + l) - Int32.ofNat 97 = Int32.ofNat l := by rw [i_sub (by omega)]; congr 1; omega
        have e3 := a3 s l hs hl8
        rw [hlB] at hB2
        show mR _ w 161 75 _ _ _
        cases hmv : mv (8 * s + l) with
        | none =>
          have nn := dead (hq1.trans hmv)
          rw [hmv] at e3
          simp (disch := omega) only [en, e_161_75, e_161_76, e_161_79, e_161_82, e_161_84, e_161_85, e_161_88, e_161_89, e_161_92, e_161_94, e_161_95, e_116_0, e_116_1, e_116_3, e_116_5, e_116_8, e_111_0, e_111_1, e_111_2, e_111_5, e_111_6, e_111_7, e_111_10, e_111_11, e_111_14, e_111_15, e_161_98, e_161_101, e_161_102, e_161_103, e_161_105, e_161_106, e_161_109, e_161_111, e_161_112, e_161_114, e_161_115, e_147_0, e_147_1, e_147_4, e_147_5, e_147_6, e_147_8, e_147_9, e_147_10, e_147_11, e_147_12, e_147_13, e_147_14, e_147_15, e_161_118, e_161_122, mK_v, i_lit, i_add, i_mul, i_m1, i_lt, i_le, i_eq, i_cl, i_in, i_ltN, i_Nlt, i_leN, i_Nle, i_eN, i_Ne, i_inN, i_l1, i_l2, mj_cpok, mj_nn, reduceCtorEq, lg_self, Nat.not_lt_zero, Nat.zero_le, Nat.reduceEqDiff, Nat.reduceLT, Nat.reduceLeDiff, true_or, or_true, false_or, or_false, not_true_eq_false, not_false_eq_true, true_imp_iff, false_imp_iff, and_self, wrd, u2, and_true, true_and, and_false, false_and, and_self, ite_true, ite_false, reduceIte, h1, g_641 G, g_666 G, g_mach G hm, hB2, hsub, e3]
          (repeat' (first | (with_reducible refine And.intro ?_ ?_) | (with_reducible intro _)))
          all_goals first | omega | exact nn
        | some s' =>
          have hs' : s' < N := h6 _ s' (by omega) hmv
          have e2 := a2 s' hs'
          rw [hmv] at e3 hq1
          have nn := ih (j + 1) (by omega)
          have hpe : pcs N mv an B p (j + 1) = match an s' with | none => pcs N mv an B p j | some r => (some r, j + 1) := by
            show (match pq N mv B p (j + 1) with | none => pcs N mv an B p j | some s => match an s with | none => pcs N mv an B p j | some r => (some r, j + 1)) = _
            rw [hq1]
          rw [hpe, hq1] at nn
          cases ha : an s' with
          | none =>
            rw [ha] at nn e2
            simp (disch := omega) only [en, e_161_75, e_161_76, e_161_79, e_161_82, e_161_84, e_161_85, e_161_88, e_161_89, e_161_92, e_161_94, e_161_95, e_116_0, e_116_1, e_116_3, e_116_5, e_116_8, e_111_0, e_111_1, e_111_2, e_111_5, e_111_6, e_111_7, e_111_10, e_111_11, e_111_14, e_111_15, e_161_98, e_161_101, e_161_102, e_161_103, e_161_105, e_161_106, e_161_109, e_161_111, e_161_112, e_161_114, e_161_115, e_147_0, e_147_1, e_147_4, e_147_5, e_147_6, e_147_8, e_147_9, e_147_10, e_147_11, e_147_12, e_147_13, e_147_14, e_147_15, e_161_118, e_161_122, e_161_124, e_161_126, e_161_127, e_161_130, e_161_131, e_161_134, e_161_135, e_161_136, e_161_138, e_161_140, e_161_141, e_161_142, e_161_143, e_161_146, e_161_169, e_161_172, mK_v, i_lit, i_add, i_mul, i_m1, i_lt, i_le, i_eq, i_cl, i_in, i_ltN, i_Nlt, i_leN, i_Nle, i_eN, i_Ne, i_inN, i_l1, i_l2, mj_cpok, mj_nn, reduceCtorEq, lg_self, Nat.not_lt_zero, Nat.zero_le, Nat.reduceEqDiff, Nat.reduceLT, Nat.reduceLeDiff, true_or, or_true, false_or, or_false, not_true_eq_false, not_false_eq_true, true_imp_iff, false_imp_iff, and_self, wrd, u2, and_true, true_and, and_false, false_and, and_self, ite_true, ite_false, reduceIte, h1, g_641 G, g_666 G, g_mach G hm, hB2, hsub, e3, e2]
            (repeat' (first | (with_reducible refine And.intro ?_ ?_) | (with_reducible intro _)))
            all_goals first | omega | exact nn
          | some r =>
            have hr := hb s' r hs' ha
            rw [ha] at nn e2
            simp (disch := omega) only [en, e_161_75, e_161_76, e_161_79, e_161_82, e_161_84, e_161_85, e_161_88, e_161_89, e_161_92, e_161_94, e_161_95, e_116_0, e_116_1, e_116_3, e_116_5, e_116_8, e_111_0, e_111_1, e_111_2, e_111_5, e_111_6, e_111_7, e_111_10, e_111_11, e_111_14, e_111_15, e_161_98, e_161_101, e_161_102, e_161_103, e_161_105, e_161_106, e_161_109, e_161_111, e_161_112, e_161_114, e_161_115, e_147_0, e_147_1, e_147_4, e_147_5, e_147_6, e_147_8, e_147_9, e_147_10, e_147_11, e_147_12, e_147_13, e_147_14, e_147_15, e_161_118, e_161_122, e_161_124, e_161_126, e_161_127, e_161_130, e_161_131, e_161_134, e_161_135, e_161_136, e_161_138, e_161_140, e_161_141, e_161_142, e_161_143, e_161_149, e_161_150, e_161_153, e_161_154, e_161_155, e_161_157, e_161_159, e_161_160, e_161_161, e_161_163, e_161_165, e_161_166, e_161_167, e_161_169, e_161_172, mK_v, i_lit, i_add, i_mul, i_m1, i_lt, i_le, i_eq, i_cl, i_in, i_ltN, i_Nlt, i_leN, i_Nle, i_eN, i_Ne, i_inN, i_l1, i_l2, mj_cpok, mj_nn, reduceCtorEq, lg_self, Nat.not_lt_zero, Nat.zero_le, Nat.reduceEqDiff, Nat.reduceLT, Nat.reduceLeDiff, true_or, or_true, false_or, or_false, not_true_eq_false, not_false_eq_true, true_imp_iff, false_imp_iff, and_self, wrd, u2, and_true, true_and, and_false, false_and, and_self, ite_true, ite_false, reduceIte, h1, g_641 G, g_666 G, g_mach G hm, hB2, hsub, e3, e2]
            (repeat' (first | (with_reducible refine And.intro ?_ ?_) | (with_reducible intro _)))
            all_goals first | omega | exact nn
end SC
