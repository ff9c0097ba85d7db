/-! The reference's words. -/
section WR
variable {d m n : Nat} {w : MWd} {mv an : Nat → Option Nat} {Q : MRes → MWd → Prop}
/-- one more letter, counted from the back -/
theorem l_154_137 {r k i : Nat} (G : Gr w) (hm : m < 4) (hA : RefA w m n mv an) (hmv : ∀ t a, t < 8 * n → mv t = some a → a < n) (W : Nat → Int64) (J0 : Nat → Nat → Int64) (hr : r < 12) (hk : k ≤ 18) (hi : i < k)
    (K : ∀ J l5 l6 l7, (∀ a, a ≠ 160 → a ≠ 161 → J a = J0 a) → (∀ t, t < n → J 160 t = sumN (fun l => match mv (8 * t + l) with | none => 0 | some t => W t) 8) →
      mR (d + 2) (setJ w J) 154 106 [some (vR (some (10, 0, 128))), some (vI (Int32.ofNat r)), some (vI (Int32.ofNat k)), some (vI (Int32.ofNat m)), some (vI (Int32.ofNat (i + 1))), l5, l6, l7] [] Q) :
    ∀ (f s l : Nat) (J : Nat → Nat → Int64) (l7 : Option MV), 8 * s + l + f = 8 * n → l < 8 → s < n → (∀ a, a ≠ 160 → a ≠ 161 → J a = J0 a) → (∀ t, t < n → J 160 t = W t) →
      (∀ t, t < s → J 161 t = sumN (fun l => match mv (8 * t + l) with | none => 0 | some t => W t) 8) → J 161 s = sumN (fun l => match mv (8 * s + l) with | none => 0 | some t => W t) l →
      mR (d + 2) (setJ w J) 154 137 [some (vR (some (10, 0, 128))), some (vI (Int32.ofNat r)), some (vI (Int32.ofNat k)), some (vI (Int32.ofNat m)), some (vI (Int32.ofNat i)), some (vI (Int32.ofNat s)), some (vI (Int32.ofNat l)), l7] [] Q
  | 0, s, l, J, l7, hf, hl, hs, h1, h2, h3, h4 => by omega
  | f + 1, s, l, J, l7, hf, hl, hs, h1, h2, h3, h4 => by
    have hn := hA.1
    have e1 := hA.2.2.2 s l hs hl
    have ih := l_154_137 G hm hA hmv W J0 hr hk hi K f
    have hnext : ∀ (J' : Nat → Nat → Int64) (l7' : Option MV), (∀ a, a ≠ 160 → a ≠ 161 → J' a = J0 a) → (∀ t, t < n → J' 160 t = W t) →
        (∀ t, t < s → J' 161 t = sumN (fun l => match mv (8 * t + l) with | none => 0 | some t => W t) 8) → J' 161 s = sumN (fun l => match mv (8 * s + l) with | none => 0 | some t => W t) (l + 1) →
        mR (d + 2) (setJ w J') 154 137 [some (vR (some (10, 0, 128))), some (vI (Int32.ofNat r)), some (vI (Int32.ofNat k)), some (vI (Int32.ofNat m)), some (vI (Int32.ofNat i)), some (vI (Int32.ofNat s)), some (vI (Int32.ofNat (l + 1))), l7'] [] Q := by
      intro J' l7' g1 g2 g3 g4
      by_cases hl8 : l + 1 < 8
      · exact ih s (l + 1) J' l7' (by omega) hl8 hs g1 g2 g3 g4
      · have hl7 : l = 7 := by omega
        subst hl7
        have g5 : ∀ t, t < s + 1 → J' 161 t = sumN (fun l => match mv (8 * t + l) with | none => 0 | some t => W t) 8 := by
          intro t ht
          by_cases hts : t = s
          · subst hts; exact g4
          · exact g3 t (by omega)
        rw [e_154_137]
        simp (disch := omega) only [e_154_0, e_154_1, e_154_2, e_154_3, e_154_6, e_154_9, e_154_10, e_154_13, e_154_14, e_154_15, e_154_17, e_154_20, e_154_23, e_154_24, e_154_27, e_154_28, e_154_31, e_154_32, e_154_35, e_154_38, e_154_39, e_154_40, e_154_43, e_154_46, e_154_47, e_154_48, e_154_49, e_154_52, e_154_53, e_154_54, e_154_55, e_154_56, e_154_60, e_154_61, e_154_64, e_154_65, e_154_66, e_154_69, e_154_70, e_154_73, e_154_75, e_154_76, e_154_79, e_154_80, e_154_81, e_154_83, e_154_85, e_154_86, e_154_87, e_154_88, e_154_91, e_154_92, e_154_95, e_154_96, e_154_97, e_154_100, e_154_103, e_154_104, e_154_108, e_154_109, e_154_112, e_154_113, e_154_117, e_154_118, e_154_121, e_154_122, e_154_123, e_154_126, e_154_127, e_154_130, e_154_132, e_154_133, e_154_134, e_154_135, e_154_139, e_154_141, e_154_144, e_154_145, e_154_146, e_154_148, e_154_150, e_154_153, e_154_155, e_154_156, e_154_159, e_154_161, e_154_162, e_154_163, e_154_165, e_154_166, e_154_169, e_154_170, e_154_173, e_154_174, e_154_177, e_154_179, e_154_180, e_154_181, e_154_182, e_154_185, e_154_188, e_154_191, e_154_194, e_154_195, e_154_198, e_154_199, e_154_200, e_154_203, e_154_204, e_154_205, e_154_208, e_154_209, e_154_210, e_154_210J, e_154_213, e_154_216, e_154_219, e_154_220, e_154_223, e_154_224, e_154_225, i_lit, i_add, i_mul, i_m1, i_lt, i_le, i_eq, i_cl, i_in, i_ltN, i_Nlt, i_leN, i_Nle, i_eN, i_Ne, i_inN, i_l1, i_l2, mj_cpok, mj_nn, reduceCtorEq, lg_self, Nat.not_lt_zero, Nat.zero_le, Nat.reduceEqDiff, Nat.reduceLT, Nat.reduceLeDiff, true_or, or_true, false_or, or_false, not_true_eq_false, not_false_eq_true, true_imp_iff, false_imp_iff, and_self, wrd, u2, and_true, true_and, and_false, false_and, and_self, ite_true, ite_false, reduceIte]
        (repeat' (first | (with_reducible refine And.intro ?_ ?_) | (with_reducible intro _)))
        all_goals try omega
        rw [e_154_115]
        simp (disch := omega) only [e_154_0, e_154_1, e_154_2, e_154_3, e_154_6, e_154_9, e_154_10, e_154_13, e_154_14, e_154_15, e_154_17, e_154_20, e_154_23, e_154_24, e_154_27, e_154_28, e_154_31, e_154_32, e_154_35, e_154_38, e_154_39, e_154_40, e_154_43, e_154_46, e_154_47, e_154_48, e_154_49, e_154_52, e_154_53, e_154_54, e_154_55, e_154_56, e_154_60, e_154_61, e_154_64, e_154_65, e_154_66, e_154_69, e_154_70, e_154_73, e_154_75, e_154_76, e_154_79, e_154_80, e_154_81, e_154_83, e_154_85, e_154_86, e_154_87, e_154_88, e_154_91, e_154_92, e_154_95, e_154_96, e_154_97, e_154_100, e_154_103, e_154_104, e_154_108, e_154_109, e_154_112, e_154_113, e_154_117, e_154_118, e_154_121, e_154_122, e_154_123, e_154_126, e_154_127, e_154_130, e_154_132, e_154_133, e_154_134, e_154_135, e_154_139, e_154_141, e_154_144, e_154_145, e_154_146, e_154_148, e_154_150, e_154_153, e_154_155, e_154_156, e_154_159, e_154_161, e_154_162, e_154_163, e_154_165, e_154_166, e_154_169, e_154_170, e_154_173, e_154_174, e_154_177, e_154_179, e_154_180, e_154_181, e_154_182, e_154_185, e_154_188, e_154_191, e_154_194, e_154_195, e_154_198, e_154_199, e_154_200, e_154_203, e_154_204, e_154_205, e_154_208, e_154_209, e_154_210, e_154_210J, e_154_213, e_154_216, e_154_219, e_154_220, e_154_223, e_154_224, e_154_225, i_lit, i_add, i_mul, i_m1, i_lt, i_le, i_eq, i_cl, i_in, i_ltN, i_Nlt, i_leN, i_Nle, i_eN, i_Ne, i_inN, i_l1, i_l2, mj_cpok, mj_nn, reduceCtorEq, lg_self, Nat.not_lt_zero, Nat.zero_le, Nat.reduceEqDiff, Nat.reduceLT, Nat.reduceLeDiff, true_or, or_true, false_or, or_false, not_true_eq_false, not_false_eq_true, true_imp_iff, false_imp_iff, and_self, wrd, u2, and_true, true_and, and_false, false_and, and_self, ite_true, ite_false, reduceIte, srj, hA.2.1, g_665 G, g_675 G, g_676 G]
        (repeat' (first | (with_reducible refine And.intro ?_ ?_) | (with_reducible intro _)))
        all_goals try omega
        · refine K _ _ _ _ (fun a ha hb => ?_) (fun t ht => ?_)
          · rw [← g1 a ha hb]
            funext j
            rw [if_neg (fun q => ha q.1)]
          · rw [if_pos (by omega), g5 _ (by omega), show 0 + (t - 0) = t by omega]
        · refine ih (s + 1) 0 _ _ (by omega) (by omega) (by omega) (fun a ha hb => ?_) (fun t ht => ?_) (fun t ht => ?_) ?_
          · rw [u2_row hb, g1 a ha hb]
          · rw [u2_row (by decide), g2 t ht]
          · rw [u2_at, if_neg (by omega), g5 t ht]
          · rw [u2_at, if_pos rfl]; rfl
    rw [e_154_137]
    cases hv : mv (8 * s + l) with
    | none =>
      rw [hv] at e1
      replace e1 : wAI w (145 + m) (9 * s + 1 + l) = NN := e1
      simp (disch := omega) only [e_154_0, e_154_1, e_154_2, e_154_3, e_154_6, e_154_9, e_154_10, e_154_13, e_154_14, e_154_15, e_154_17, e_154_20, e_154_23, e_154_24, e_154_27, e_154_28, e_154_31, e_154_32, e_154_35, e_154_38, e_154_39, e_154_40, e_154_43, e_154_46, e_154_47, e_154_48, e_154_49, e_154_52, e_154_53, e_154_54, e_154_55, e_154_56, e_154_60, e_154_61, e_154_64, e_154_65, e_154_66, e_154_69, e_154_70, e_154_73, e_154_75, e_154_76, e_154_79, e_154_80, e_154_81, e_154_83, e_154_85, e_154_86, e_154_87, e_154_88, e_154_91, e_154_92, e_154_95, e_154_96, e_154_97, e_154_100, e_154_103, e_154_104, e_154_108, e_154_109, e_154_112, e_154_113, e_154_117, e_154_118, e_154_121, e_154_122, e_154_123, e_154_126, e_154_127, e_154_130, e_154_132, e_154_133, e_154_134, e_154_135, e_154_139, e_154_141, e_154_144, e_154_145, e_154_146, e_154_148, e_154_150, e_154_153, e_154_155, e_154_156, e_154_159, e_154_161, e_154_162, e_154_163, e_154_165, e_154_166, e_154_169, e_154_170, e_154_173, e_154_174, e_154_177, e_154_179, e_154_180, e_154_181, e_154_182, e_154_185, e_154_188, e_154_191, e_154_194, e_154_195, e_154_198, e_154_199, e_154_200, e_154_203, e_154_204, e_154_205, e_154_208, e_154_209, e_154_210, e_154_210J, e_154_213, e_154_216, e_154_219, e_154_220, e_154_223, e_154_224, e_154_225, e_147_0, e_147_1, e_147_4, e_147_5, e_147_6, e_147_8, e_147_9, e_147_10, e_147_11, e_147_12, e_147_13, e_147_14, e_147_15, i_lit, i_add, i_mul, i_m1, i_lt, i_le, i_eq, i_cl, i_in, i_ltN, i_Nlt, i_leN, i_Nle, i_eN, i_Ne, i_inN, i_l1, i_l2, mj_cpok, mj_nn, reduceCtorEq, lg_self, Nat.not_lt_zero, Nat.zero_le, Nat.reduceEqDiff, Nat.reduceLT, Nat.reduceLeDiff, true_or, or_true, false_or, or_false, not_true_eq_false, not_false_eq_true, true_imp_iff, false_imp_iff, and_self, wrd, u2, and_true, true_and, and_false, false_and, and_self, ite_true, ite_false, reduceIte, srj, mK_v, g_666 G, g_mach G hm, g_675 G, g_676 G, e1]
      (repeat' (first | (with_reducible refine And.intro ?_ ?_) | (with_reducible intro _)))
      all_goals try omega
      refine hnext _ _ (fun a ha hb => ?_) (fun t ht => ?_) (fun t ht => ?_) ?_
      · rw [u2_row hb, h1 a ha hb]
      · rw [u2_row (by decide), h2 t ht]
      · rw [u2_at, if_neg (by omega), h3 t ht]
      · rw [u2_at, if_pos rfl, h4]
        show _ = sumN _ l + (match mv (8 * s + l) with | none => 0 | some t => W t)
        rw [hv]
    | some a =>
      have ha := hmv _ a (by omega) hv
      rw [hv] at e1
      replace e1 : wAI w (145 + m) (9 * s + 1 + l) = Int32.ofNat a := e1
      simp (disch := omega) only [e_154_0, e_154_1, e_154_2, e_154_3, e_154_6, e_154_9, e_154_10, e_154_13, e_154_14, e_154_15, e_154_17, e_154_20, e_154_23, e_154_24, e_154_27, e_154_28, e_154_31, e_154_32, e_154_35, e_154_38, e_154_39, e_154_40, e_154_43, e_154_46, e_154_47, e_154_48, e_154_49, e_154_52, e_154_53, e_154_54, e_154_55, e_154_56, e_154_60, e_154_61, e_154_64, e_154_65, e_154_66, e_154_69, e_154_70, e_154_73, e_154_75, e_154_76, e_154_79, e_154_80, e_154_81, e_154_83, e_154_85, e_154_86, e_154_87, e_154_88, e_154_91, e_154_92, e_154_95, e_154_96, e_154_97, e_154_100, e_154_103, e_154_104, e_154_108, e_154_109, e_154_112, e_154_113, e_154_117, e_154_118, e_154_121, e_154_122, e_154_123, e_154_126, e_154_127, e_154_130, e_154_132, e_154_133, e_154_134, e_154_135, e_154_139, e_154_141, e_154_144, e_154_145, e_154_146, e_154_148, e_154_150, e_154_153, e_154_155, e_154_156, e_154_159, e_154_161, e_154_162, e_154_163, e_154_165, e_154_166, e_154_169, e_154_170, e_154_173, e_154_174, e_154_177, e_154_179, e_154_180, e_154_181, e_154_182, e_154_185, e_154_188, e_154_191, e_154_194, e_154_195, e_154_198, e_154_199, e_154_200, e_154_203, e_154_204, e_154_205, e_154_208, e_154_209, e_154_210, e_154_210J, e_154_213, e_154_216, e_154_219, e_154_220, e_154_223, e_154_224, e_154_225, e_147_0, e_147_1, e_147_4, e_147_5, e_147_6, e_147_8, e_147_9, e_147_10, e_147_11, e_147_12, e_147_13, e_147_14, e_147_15, i_lit, i_add, i_mul, i_m1, i_lt, i_le, i_eq, i_cl, i_in, i_ltN, i_Nlt, i_leN, i_Nle, i_eN, i_Ne, i_inN, i_l1, i_l2, mj_cpok, mj_nn, reduceCtorEq, lg_self, Nat.not_lt_zero, Nat.zero_le, Nat.reduceEqDiff, Nat.reduceLT, Nat.reduceLeDiff, true_or, or_true, false_or, or_false, not_true_eq_false, not_false_eq_true, true_imp_iff, false_imp_iff, and_self, wrd, u2, and_true, true_and, and_false, false_and, and_self, ite_true, ite_false, reduceIte, srj, mK_v, g_666 G, g_mach G hm, g_675 G, g_676 G, e1]
      (repeat' (first | (with_reducible refine And.intro ?_ ?_) | (with_reducible intro _)))
      all_goals try omega
      refine hnext _ _ (fun a ha hb => ?_) (fun t ht => ?_) (fun t ht => ?_) ?_
      · rw [u2_row hb, h1 a ha hb]
      · rw [u2_row (by decide), h2 t ht]
      · rw [u2_at, if_neg (by omega), h3 t ht]
      · rw [u2_at, if_pos rfl, h4, h2 a ha]
        show _ = sumN _ l + (match mv (8 * s + l) with | none => 0 | some t => W t)
        rw [hv]
theorem l_154_106 {r k : Nat} (G : Gr w) (hm : m < 4) (hn0 : 0 < n) (hA : RefA w m n mv an) (hmv : ∀ t a, t < 8 * n → mv t = some a → a < n) (b : Nat → Int64) (hr : r < 12) (hk : k ≤ 18)
    (K : ∀ J, (∀ a, a ≠ 160 → a ≠ 161 → J a = wAJ w a) → Q (.inl (some (vL (bwd mv b k 0)))) (setJ w J)) :
    ∀ (f i : Nat) (J : Nat → Nat → Int64) (l5 l6 l7 : Option MV), i + f = k → (∀ a, a ≠ 160 → a ≠ 161 → J a = wAJ w a) → (∀ t, t < n → J 160 t = bwd mv b i t) →
      mR (d + 2) (setJ w J) 154 106 [some (vR (some (10, 0, 128))), some (vI (Int32.ofNat r)), some (vI (Int32.ofNat k)), some (vI (Int32.ofNat m)), some (vI (Int32.ofNat i)), l5, l6, l7] [] Q
  | 0, i, J, l5, l6, l7, hi, h1, h2 => by
    have hik : i = k := by omega
    subst hik
    rw [e_154_106]
    simp (disch := omega) only [e_154_0, e_154_1, e_154_2, e_154_3, e_154_6, e_154_9, e_154_10, e_154_13, e_154_14, e_154_15, e_154_17, e_154_20, e_154_23, e_154_24, e_154_27, e_154_28, e_154_31, e_154_32, e_154_35, e_154_38, e_154_39, e_154_40, e_154_43, e_154_46, e_154_47, e_154_48, e_154_49, e_154_52, e_154_53, e_154_54, e_154_55, e_154_56, e_154_60, e_154_61, e_154_64, e_154_65, e_154_66, e_154_69, e_154_70, e_154_73, e_154_75, e_154_76, e_154_79, e_154_80, e_154_81, e_154_83, e_154_85, e_154_86, e_154_87, e_154_88, e_154_91, e_154_92, e_154_95, e_154_96, e_154_97, e_154_100, e_154_103, e_154_104, e_154_108, e_154_109, e_154_112, e_154_113, e_154_117, e_154_118, e_154_121, e_154_122, e_154_123, e_154_126, e_154_127, e_154_130, e_154_132, e_154_133, e_154_134, e_154_135, e_154_139, e_154_141, e_154_144, e_154_145, e_154_146, e_154_148, e_154_150, e_154_153, e_154_155, e_154_156, e_154_159, e_154_161, e_154_162, e_154_163, e_154_165, e_154_166, e_154_169, e_154_170, e_154_173, e_154_174, e_154_177, e_154_179, e_154_180, e_154_181, e_154_182, e_154_185, e_154_188, e_154_191, e_154_194, e_154_195, e_154_198, e_154_199, e_154_200, e_154_203, e_154_204, e_154_205, e_154_208, e_154_209, e_154_210, e_154_210J, e_154_213, e_154_216, e_154_219, e_154_220, e_154_223, e_154_224, e_154_225, i_lit, i_add, i_mul, i_m1, i_lt, i_le, i_eq, i_cl, i_in, i_ltN, i_Nlt, i_leN, i_Nle, i_eN, i_Ne, i_inN, i_l1, i_l2, mj_cpok, mj_nn, reduceCtorEq, lg_self, Nat.not_lt_zero, Nat.zero_le, Nat.reduceEqDiff, Nat.reduceLT, Nat.reduceLeDiff, true_or, or_true, false_or, or_false, not_true_eq_false, not_false_eq_true, true_imp_iff, false_imp_iff, and_self, wrd, u2, and_true, true_and, and_false, false_and, and_self, ite_true, ite_false, reduceIte, srj, g_675 G]
    (repeat' (first | (with_reducible refine And.intro ?_ ?_) | (with_reducible intro _)))
    all_goals try omega
    rw [h2 0 hn0]; exact K J h1
  | f + 1, i, J, l5, l6, l7, hi, h1, h2 => by
    have hn := hA.1
    have ih := l_154_106 G hm hn0 hA hmv b hr hk K f
    rw [e_154_106]
    simp (disch := omega) only [e_154_0, e_154_1, e_154_2, e_154_3, e_154_6, e_154_9, e_154_10, e_154_13, e_154_14, e_154_15, e_154_17, e_154_20, e_154_23, e_154_24, e_154_27, e_154_28, e_154_31, e_154_32, e_154_35, e_154_38, e_154_39, e_154_40, e_154_43, e_154_46, e_154_47, e_154_48, e_154_49, e_154_52, e_154_53, e_154_54, e_154_55, e_154_56, e_154_60, e_154_61, e_154_64, e_154_65, e_154_66, e_154_69, e_154_70, e_154_73, e_154_75, e_154_76, e_154_79, e_154_80, e_154_81, e_154_83, e_154_85, e_154_86, e_154_87, e_154_88, e_154_91, e_154_92, e_154_95, e_154_96, e_154_97, e_154_100, e_154_103, e_154_104, e_154_108, e_154_109, e_154_112, e_154_113, e_154_117, e_154_118, e_154_121, e_154_122, e_154_123, e_154_126, e_154_127, e_154_130, e_154_132, e_154_133, e_154_134, e_154_135, e_154_139, e_154_141, e_154_144, e_154_145, e_154_146, e_154_148, e_154_150, e_154_153, e_154_155, e_154_156, e_154_159, e_154_161, e_154_162, e_154_163, e_154_165, e_154_166, e_154_169, e_154_170, e_154_173, e_154_174, e_154_177, e_154_179, e_154_180, e_154_181, e_154_182, e_154_185, e_154_188, e_154_191, e_154_194, e_154_195, e_154_198, e_154_199, e_154_200, e_154_203, e_154_204, e_154_205, e_154_208, e_154_209, e_154_210, e_154_210J, e_154_213, e_154_216, e_154_219, e_154_220, e_154_223, e_154_224, e_154_225, i_lit, i_add, i_mul, i_m1, i_lt, i_le, i_eq, i_cl, i_in, i_ltN, i_Nlt, i_leN, i_Nle, i_eN, i_Ne, i_inN, i_l1, i_l2, mj_cpok, mj_nn, reduceCtorEq, lg_self, Nat.not_lt_zero, Nat.zero_le, Nat.reduceEqDiff, Nat.reduceLT, Nat.reduceLeDiff, true_or, or_true, false_or, or_false, not_true_eq_false, not_false_eq_true, true_imp_iff, false_imp_iff, and_self, wrd, u2, and_true, true_and, and_false, false_and, and_self, ite_true, ite_false, reduceIte]
    (repeat' (first | (with_reducible refine And.intro ?_ ?_) | (with_reducible intro _)))
    all_goals try omega
    rw [e_154_115]
    simp (disch := omega) only [e_154_0, e_154_1, e_154_2, e_154_3, e_154_6, e_154_9, e_154_10, e_154_13, e_154_14, e_154_15, e_154_17, e_154_20, e_154_23, e_154_24, e_154_27, e_154_28, e_154_31, e_154_32, e_154_35, e_154_38, e_154_39, e_154_40, e_154_43, e_154_46, e_154_47, e_154_48, e_154_49, e_154_52, e_154_53, e_154_54, e_154_55, e_154_56, e_154_60, e_154_61, e_154_64, e_154_65, e_154_66, e_154_69, e_154_70, e_154_73, e_154_75, e_154_76, e_154_79, e_154_80, e_154_81, e_154_83, e_154_85, e_154_86, e_154_87, e_154_88, e_154_91, e_154_92, e_154_95, e_154_96, e_154_97, e_154_100, e_154_103, e_154_104, e_154_108, e_154_109, e_154_112, e_154_113, e_154_117, e_154_118, e_154_121, e_154_122, e_154_123, e_154_126, e_154_127, e_154_130, e_154_132, e_154_133, e_154_134, e_154_135, e_154_139, e_154_141, e_154_144, e_154_145, e_154_146, e_154_148, e_154_150, e_154_153, e_154_155, e_154_156, e_154_159, e_154_161, e_154_162, e_154_163, e_154_165, e_154_166, e_154_169, e_154_170, e_154_173, e_154_174, e_154_177, e_154_179, e_154_180, e_154_181, e_154_182, e_154_185, e_154_188, e_154_191, e_154_194, e_154_195, e_154_198, e_154_199, e_154_200, e_154_203, e_154_204, e_154_205, e_154_208, e_154_209, e_154_210, e_154_210J, e_154_213, e_154_216, e_154_219, e_154_220, e_154_223, e_154_224, e_154_225, i_lit, i_add, i_mul, i_m1, i_lt, i_le, i_eq, i_cl, i_in, i_ltN, i_Nlt, i_leN, i_Nle, i_eN, i_Ne, i_inN, i_l1, i_l2, mj_cpok, mj_nn, reduceCtorEq, lg_self, Nat.not_lt_zero, Nat.zero_le, Nat.reduceEqDiff, Nat.reduceLT, Nat.reduceLeDiff, true_or, or_true, false_or, or_false, not_true_eq_false, not_false_eq_true, true_imp_iff, false_imp_iff, and_self, wrd, u2, and_true, true_and, and_false, false_and, and_self, ite_true, ite_false, reduceIte, srj, hA.2.1, g_665 G, g_676 G]
    (repeat' (first | (with_reducible refine And.intro ?_ ?_) | (with_reducible intro _)))
    all_goals try omega
    refine l_154_137 G hm hA hmv (bwd mv b i) J hr hk (by omega) (fun J' l5' l6' l7' g1 g2 => ?_) (8 * n) 0 0 _ _ (by omega) (by omega) hn0 (fun a ha hb => u2_row hb) (fun t ht => ?_) (fun t ht => absurd ht (Nat.not_lt_zero t)) ?_
    · exact ih (i + 1) J' l5' l6' l7' (by omega) (fun a ha hb => (g1 a ha hb).trans (h1 a ha hb)) (fun t ht => g2 t ht)
    · rw [u2_row (by decide), h2 t ht]
    · rw [u2_at, if_pos rfl]; rfl
theorem s_154 {r k nb nr : Nat} (G : Gr w) (hm : m < 4) (hA : RefA w m n mv an) (hmv : ∀ t a, t < 8 * n → mv t = some a → a < n) (hr : r < nb) (hnb : nb ≤ nr) (hnr : nr ≤ 12) (hk : k ≤ 18) (hb : ∀ s q, s < n → an s = some q → q < 12)
    (hrr : wFI w 644 128 = Int32.ofNat nr) (hbr : wFI w 664 128 = Int32.ofNat nb) (hmd : wAI w 130 r = Int32.ofNat m)
    (K : ∀ J x, (∀ a, a ≠ 160 → a ≠ 161 → J a = wAJ w a) → x = (if 0 < n then bwd mv (fun s => if an s = some r then 1 else 0) k 0 else 0) → Q (.inl (some (vL x))) (sFI (setJ w J) 640 128 (Int32.ofNat 0))) :
    mR (d + 3) w 154 0 [some (vR (some (10, 0, 128))), some (vI (Int32.ofNat r)), some (vI (Int32.ofNat k)), none, none, none, none, none] [] Q := by
  have hn := hA.1
  have ini : 0 < n → ∀ (f i : Nat) (J : Nat → Nat → Int64), i + f = n → (∀ a, a ≠ 160 → a ≠ 161 → J a = wAJ w a) → (∀ t, t < i → J 160 t = if an t = some r then 1 else 0) →
      mR (d + 3) (setJ (sFI w 640 128 (Int32.ofNat 0)) J) 154 58 [some (vR (some (10, 0, 128))), some (vI (Int32.ofNat r)), some (vI (Int32.ofNat k)), some (vI (Int32.ofNat m)), some (vI (Int32.ofNat i)), none, none, none] [] Q := by
    intro hn0 f
    induction f with
    | zero =>
      intro i J hi h1 h2
      rw [e_154_58]
      simp (disch := omega) only [e_154_0, e_154_1, e_154_2, e_154_3, e_154_6, e_154_9, e_154_10, e_154_13, e_154_14, e_154_15, e_154_17, e_154_20, e_154_23, e_154_24, e_154_27, e_154_28, e_154_31, e_154_32, e_154_35, e_154_38, e_154_39, e_154_40, e_154_43, e_154_46, e_154_47, e_154_48, e_154_49, e_154_52, e_154_53, e_154_54, e_154_55, e_154_56, e_154_60, e_154_61, e_154_64, e_154_65, e_154_66, e_154_69, e_154_70, e_154_73, e_154_75, e_154_76, e_154_79, e_154_80, e_154_81, e_154_83, e_154_85, e_154_86, e_154_87, e_154_88, e_154_91, e_154_92, e_154_95, e_154_96, e_154_97, e_154_100, e_154_103, e_154_104, e_154_108, e_154_109, e_154_112, e_154_113, e_154_117, e_154_118, e_154_121, e_154_122, e_154_123, e_154_126, e_154_127, e_154_130, e_154_132, e_154_133, e_154_134, e_154_135, e_154_139, e_154_141, e_154_144, e_154_145, e_154_146, e_154_148, e_154_150, e_154_153, e_154_155, e_154_156, e_154_159, e_154_161, e_154_162, e_154_163, e_154_165, e_154_166, e_154_169, e_154_170, e_154_173, e_154_174, e_154_177, e_154_179, e_154_180, e_154_181, e_154_182, e_154_185, e_154_188, e_154_191, e_154_194, e_154_195, e_154_198, e_154_199, e_154_200, e_154_203, e_154_204, e_154_205, e_154_208, e_154_209, e_154_210, e_154_210J, e_154_213, e_154_216, e_154_219, e_154_220, e_154_223, e_154_224, e_154_225, i_lit, i_add, i_mul, i_m1, i_lt, i_le, i_eq, i_cl, i_in, i_ltN, i_Nlt, i_leN, i_Nle, i_eN, i_Ne, i_inN, i_l1, i_l2, mj_cpok, mj_nn, reduceCtorEq, lg_self, Nat.not_lt_zero, Nat.zero_le, Nat.reduceEqDiff, Nat.reduceLT, Nat.reduceLeDiff, true_or, or_true, false_or, or_false, not_true_eq_false, not_false_eq_true, true_imp_iff, false_imp_iff, and_self, wrd, u2, and_true, true_and, and_false, false_and, and_self, ite_true, ite_false, reduceIte, srj, hA.2.1, g_665 G]
      (repeat' (first | (with_reducible refine And.intro ?_ ?_) | (with_reducible intro _)))
      all_goals try omega
      refine l_154_106 (w := sFI w 640 128 (Int32.ofNat 0)) (G_sFI G) hm hn0 hA hmv (fun s => if an s = some r then 1 else 0) (by omega) hk (fun J' g1 => ?_) k 0 J _ _ _ (by omega) (fun a ha hb => h1 a ha hb) (fun t ht => h2 t (by omega))
      exact K J' _ (fun a ha hb => g1 a ha hb) (by rw [if_pos hn0])
    | succ f ih =>
      intro i J hi h1 h2
      have ha := hA.2.2.1 i (by omega)
      have hae := en_eq (x := an i) (r := r) (by omega) (fun q hq => by have := hb i q (by omega) hq; omega)
      rw [e_154_58]
      simp (disch := omega) only [e_154_0, e_154_1, e_154_2, e_154_3, e_154_6, e_154_9, e_154_10, e_154_13, e_154_14, e_154_15, e_154_17, e_154_20, e_154_23, e_154_24, e_154_27, e_154_28, e_154_31, e_154_32, e_154_35, e_154_38, e_154_39, e_154_40, e_154_43, e_154_46, e_154_47, e_154_48, e_154_49, e_154_52, e_154_53, e_154_54, e_154_55, e_154_56, e_154_60, e_154_61, e_154_64, e_154_65, e_154_66, e_154_69, e_154_70, e_154_73, e_154_75, e_154_76, e_154_79, e_154_80, e_154_81, e_154_83, e_154_85, e_154_86, e_154_87, e_154_88, e_154_91, e_154_92, e_154_95, e_154_96, e_154_97, e_154_100, e_154_103, e_154_104, e_154_108, e_154_109, e_154_112, e_154_113, e_154_117, e_154_118, e_154_121, e_154_122, e_154_123, e_154_126, e_154_127, e_154_130, e_154_132, e_154_133, e_154_134, e_154_135, e_154_139, e_154_141, e_154_144, e_154_145, e_154_146, e_154_148, e_154_150, e_154_153, e_154_155, e_154_156, e_154_159, e_154_161, e_154_162, e_154_163, e_154_165, e_154_166, e_154_169, e_154_170, e_154_173, e_154_174, e_154_177, e_154_179, e_154_180, e_154_181, e_154_182, e_154_185, e_154_188, e_154_191, e_154_194, e_154_195, e_154_198, e_154_199, e_154_200, e_154_203, e_154_204, e_154_205, e_154_208, e_154_209, e_154_210, e_154_210J, e_154_213, e_154_216, e_154_219, e_154_220, e_154_223, e_154_224, e_154_225, i_lit, i_add, i_mul, i_m1, i_lt, i_le, i_eq, i_cl, i_in, i_ltN, i_Nlt, i_leN, i_Nle, i_eN, i_Ne, i_inN, i_l1, i_l2, mj_cpok, mj_nn, reduceCtorEq, lg_self, Nat.not_lt_zero, Nat.zero_le, Nat.reduceEqDiff, Nat.reduceLT, Nat.reduceLeDiff, true_or, or_true, false_or, or_false, not_true_eq_false, not_false_eq_true, true_imp_iff, false_imp_iff, and_self, wrd, u2, and_true, true_and, and_false, false_and, and_self, ite_true, ite_false, reduceIte, srj, hA.2.1, g_665 G, g_675 G, g_666 G, g_mach G hm, ha]
      (repeat' (first | (with_reducible refine And.intro ?_ ?_) | (with_reducible intro _)))
      all_goals try omega
      · rename_i hne
        refine ih (i + 1) _ (by omega) (fun a ha hb => by rw [u2_row ha, h1 a ha hb]) (fun t ht => ?_)
        rw [u2_at]
        by_cases hti : t = i
        · subst hti; rw [if_pos rfl, if_neg (fun q => hne (hae.mpr q))]
        · rw [if_neg hti, h2 t (by omega)]
      · rename_i hne
        refine ih (i + 1) _ (by omega) (fun a ha hb => by rw [u2_row ha, h1 a ha hb]) (fun t ht => ?_)
        rw [u2_at]
        by_cases hti : t = i
        · subst hti; rw [if_pos rfl, if_pos (hae.mp hne)]
        · rw [if_neg hti, h2 t (by omega)]
  by_cases hn0 : 0 < n
  · simp (disch := omega) only [e_154_0, e_154_1, e_154_2, e_154_3, e_154_6, e_154_9, e_154_10, e_154_13, e_154_14, e_154_15, e_154_17, e_154_20, e_154_23, e_154_24, e_154_27, e_154_28, e_154_31, e_154_32, e_154_35, e_154_38, e_154_39, e_154_40, e_154_43, e_154_46, e_154_47, e_154_48, e_154_49, e_154_52, e_154_53, e_154_54, e_154_55, e_154_56, e_154_60, e_154_61, e_154_64, e_154_65, e_154_66, e_154_69, e_154_70, e_154_73, e_154_75, e_154_76, e_154_79, e_154_80, e_154_81, e_154_83, e_154_85, e_154_86, e_154_87, e_154_88, e_154_91, e_154_92, e_154_95, e_154_96, e_154_97, e_154_100, e_154_103, e_154_104, e_154_108, e_154_109, e_154_112, e_154_113, e_154_117, e_154_118, e_154_121, e_154_122, e_154_123, e_154_126, e_154_127, e_154_130, e_154_132, e_154_133, e_154_134, e_154_135, e_154_139, e_154_141, e_154_144, e_154_145, e_154_146, e_154_148, e_154_150, e_154_153, e_154_155, e_154_156, e_154_159, e_154_161, e_154_162, e_154_163, e_154_165, e_154_166, e_154_169, e_154_170, e_154_173, e_154_174, e_154_177, e_154_179, e_154_180, e_154_181, e_154_182, e_154_185, e_154_188, e_154_191, e_154_194, e_154_195, e_154_198, e_154_199, e_154_200, e_154_203, e_154_204, e_154_205, e_154_208, e_154_209, e_154_210, e_154_210J, e_154_213, e_154_216, e_154_219, e_154_220, e_154_223, e_154_224, e_154_225, e_151_0, e_151_1, e_151_2, e_151_3, e_151_6, e_151_7, e_151_8, e_151_11, e_152_0, e_152_1, e_152_2, e_152_5, e_152_8, e_152_9, e_152_12, e_152_13, e_152_16, e_152_17, e_152_18, e_152_19, e_152_22, e_152_23, e_111_0, e_111_1, e_111_2, e_111_5, e_111_6, e_111_7, e_111_10, e_111_11, e_111_14, e_111_15, i_lit, i_add, i_mul, i_m1, i_lt, i_le, i_eq, i_cl, i_in, i_ltN, i_Nlt, i_leN, i_Nle, i_eN, i_Ne, i_inN, i_l1, i_l2, mj_cpok, mj_nn, reduceCtorEq, lg_self, Nat.not_lt_zero, Nat.zero_le, Nat.reduceEqDiff, Nat.reduceLT, Nat.reduceLeDiff, true_or, or_true, false_or, or_false, not_true_eq_false, not_false_eq_true, true_imp_iff, false_imp_iff, and_self, wrd, u2, and_true, true_and, and_false, false_and, and_self, ite_true, ite_false, reduceIte, hA.2.1, hrr, hbr, hmd, g_665 G, g_645 G, mK_v]
    (repeat' (first | (with_reducible refine And.intro ?_ ?_) | (with_reducible intro _)))
    all_goals try omega
    exact ini hn0 n 0 (wAJ w) (by omega) (fun _ _ _ => rfl) (fun t ht => absurd ht (Nat.not_lt_zero t))
  · simp (disch := omega) only [e_154_0, e_154_1, e_154_2, e_154_3, e_154_6, e_154_9, e_154_10, e_154_13, e_154_14, e_154_15, e_154_17, e_154_20, e_154_23, e_154_24, e_154_27, e_154_28, e_154_31, e_154_32, e_154_35, e_154_38, e_154_39, e_154_40, e_154_43, e_154_46, e_154_47, e_154_48, e_154_49, e_154_52, e_154_53, e_154_54, e_154_55, e_154_56, e_154_60, e_154_61, e_154_64, e_154_65, e_154_66, e_154_69, e_154_70, e_154_73, e_154_75, e_154_76, e_154_79, e_154_80, e_154_81, e_154_83, e_154_85, e_154_86, e_154_87, e_154_88, e_154_91, e_154_92, e_154_95, e_154_96, e_154_97, e_154_100, e_154_103, e_154_104, e_154_108, e_154_109, e_154_112, e_154_113, e_154_117, e_154_118, e_154_121, e_154_122, e_154_123, e_154_126, e_154_127, e_154_130, e_154_132, e_154_133, e_154_134, e_154_135, e_154_139, e_154_141, e_154_144, e_154_145, e_154_146, e_154_148, e_154_150, e_154_153, e_154_155, e_154_156, e_154_159, e_154_161, e_154_162, e_154_163, e_154_165, e_154_166, e_154_169, e_154_170, e_154_173, e_154_174, e_154_177, e_154_179, e_154_180, e_154_181, e_154_182, e_154_185, e_154_188, e_154_191, e_154_194, e_154_195, e_154_198, e_154_199, e_154_200, e_154_203, e_154_204, e_154_205, e_154_208, e_154_209, e_154_210, e_154_210J, e_154_213, e_154_216, e_154_219, e_154_220, e_154_223, e_154_224, e_154_225, e_151_0, e_151_1, e_151_2, e_151_3, e_151_6, e_151_7, e_151_8, e_151_11, e_152_0, e_152_1, e_152_2, e_152_5, e_152_8, e_152_9, e_152_12, e_152_13, e_152_16, e_152_17, e_152_18, e_152_19, e_152_22, e_152_23, e_111_0, e_111_1, e_111_2, e_111_5, e_111_6, e_111_7, e_111_10, e_111_11, e_111_14, e_111_15, i_lit, i_add, i_mul, i_m1, i_lt, i_le, i_eq, i_cl, i_in, i_ltN, i_Nlt, i_leN, i_Nle, i_eN, i_Ne, i_inN, i_l1, i_l2, mj_cpok, mj_nn, reduceCtorEq, lg_self, Nat.not_lt_zero, Nat.zero_le, Nat.reduceEqDiff, Nat.reduceLT, Nat.reduceLeDiff, true_or, or_true, false_or, or_false, not_true_eq_false, not_false_eq_true, true_imp_iff, false_imp_iff, and_self, wrd, u2, and_true, true_and, and_false, false_and, and_self, ite_true, ite_false, reduceIte, hA.2.1, hrr, hbr, hmd, g_665 G, g_645 G, mK_v]
    (repeat' (first | (with_reducible refine And.intro ?_ ?_) | (with_reducible intro _)))
    all_goals try omega
    exact K (wAJ w) _ (fun _ _ _ => rfl) (by rw [if_neg hn0])
end WR
