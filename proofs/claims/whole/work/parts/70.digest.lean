/-! The class's digest. -/
def mx (x : Int64) (v : Int32) : Int64 := x * 31 + v.toInt64
def dgN (f : Nat → Int32) : Nat → Int64 → Int64
  | 0, x => x
  | n + 1, x => mx (dgN f n x) (f n)
theorem dgN_congr {f g : Nat → Int32} {x : Int64} : ∀ {n : Nat}, (∀ i, i < n → f i = g i) → dgN f n x = dgN g n x
  | 0, _ => rfl
  | n + 1, h => by
    unfold dgN
    rw [dgN_congr fun i hi => h i (by omega), h n (by omega)]
/-- what is told of all rules, one after the other -/
noncomputable def rlF (w : MWd) (t : Nat) : Int32 := fcV w (t / 6) (t % 6)
section DG
variable {d : Nat} {w : MWd} {Q : MRes → MWd → Prop}
theorem s_101 {n : Nat} {x : Int64} (G : Gr w) (hn : n ≤ 12) (h1 : wFI w 385 4 = Int32.ofNat n) (hR : ∀ r, r < n → RuleOk w r) (h : Q (.inl (some (vL (dgN (rlF w) (6 * n) x)))) w) :
    mR (d + 2) w 101 0 [some (vR (some (8, 0, 1))), some (vL x), none, none, none, none, none, none] [] Q := by
  have done : ∀ (f r : Nat) (y : Int64) (l6 l7 : Option MV), r + f = 12 → n ≤ r → y = dgN (rlF w) (6 * n) x → mR (d + 2) w 101 5 [some (vR (some (8, 0, 1))), some (vL x), none, some (vL y), none, some (vI (Int32.ofNat r)), l6, l7] [] Q := by
    intro f
    induction f with
    | zero =>
      intro r y l6 l7 hr hnr hy
      rw [e_101_5]
      simp (disch := omega) only [e_101_0, e_101_1, e_101_2, e_101_3, e_101_7, e_101_9, e_101_12, e_101_13, e_101_16, e_101_18, e_101_21, e_101_23, e_101_24, e_101_28, e_101_31, e_101_33, e_101_35, e_101_38, e_101_39, e_101_41, e_101_43, e_101_46, e_101_49, e_101_50, e_101_53, e_101_56, e_101_59, e_101_62, e_101_63, i_lit, i_add, i_mul, i_m1, i_lt, i_le, i_eq, i_cl, i_in, i_ltN, i_Nlt, i_leN, i_Nle, i_eN, i_Ne, i_inN, i_l1, i_l2, mj_cpok, mj_nn, reduceCtorEq, lg_self, Nat.not_lt_zero, Nat.zero_le, Nat.reduceEqDiff, Nat.reduceLT, Nat.reduceLeDiff, true_or, or_true, false_or, or_false, not_true_eq_false, not_false_eq_true, true_imp_iff, false_imp_iff, and_self, wrd, u2, and_true, true_and, and_false, false_and, and_self, ite_true, ite_false, reduceIte]
      (repeat' (first | (with_reducible refine And.intro ?_ ?_) | (with_reducible intro _)))
      all_goals try omega
      rw [hy]; exact h
    | succ f ih =>
      intro r y l6 l7 hr hnr hy
      rw [e_101_5]
      simp (disch := omega) only [e_101_0, e_101_1, e_101_2, e_101_3, e_101_7, e_101_9, e_101_12, e_101_13, e_101_16, e_101_18, e_101_21, e_101_23, e_101_24, e_101_28, e_101_31, e_101_33, e_101_35, e_101_38, e_101_39, e_101_41, e_101_43, e_101_46, e_101_49, e_101_50, e_101_53, e_101_56, e_101_59, e_101_62, e_101_63, e_73_0, e_73_1, e_73_4, e_73_5, e_73_6, e_73_9, e_73_12, e_73_13, e_73_15, e_73_18, e_73_19, e_73_22, e_73_23, e_73_24, e_73_27, e_73_28, i_lit, i_add, i_mul, i_m1, i_lt, i_le, i_eq, i_cl, i_in, i_ltN, i_Nlt, i_leN, i_Nle, i_eN, i_Ne, i_inN, i_l1, i_l2, mj_cpok, mj_nn, reduceCtorEq, lg_self, Nat.not_lt_zero, Nat.zero_le, Nat.reduceEqDiff, Nat.reduceLT, Nat.reduceLeDiff, true_or, or_true, false_or, or_false, not_true_eq_false, not_false_eq_true, true_imp_iff, false_imp_iff, and_self, wrd, u2, and_true, true_and, and_false, false_and, and_self, ite_true, ite_false, reduceIte, mK_v, g_513 G, h1]
      (repeat' (first | (with_reducible refine And.intro ?_ ?_) | (with_reducible intro _)))
      all_goals try omega
      rw [e_101_26]
      simp (disch := omega) only [e_101_0, e_101_1, e_101_2, e_101_3, e_101_7, e_101_9, e_101_12, e_101_13, e_101_16, e_101_18, e_101_21, e_101_23, e_101_24, e_101_28, e_101_31, e_101_33, e_101_35, e_101_38, e_101_39, e_101_41, e_101_43, e_101_46, e_101_49, e_101_50, e_101_53, e_101_56, e_101_59, e_101_62, e_101_63, i_lit, i_add, i_mul, i_m1, i_lt, i_le, i_eq, i_cl, i_in, i_ltN, i_Nlt, i_leN, i_Nle, i_eN, i_Ne, i_inN, i_l1, i_l2, mj_cpok, mj_nn, reduceCtorEq, lg_self, Nat.not_lt_zero, Nat.zero_le, Nat.reduceEqDiff, Nat.reduceLT, Nat.reduceLeDiff, true_or, or_true, false_or, or_false, not_true_eq_false, not_false_eq_true, true_imp_iff, false_imp_iff, and_self, wrd, u2, and_true, true_and, and_false, false_and, and_self, ite_true, ite_false, reduceIte]
      exact ih (r + 1) y _ _ (by omega) (by omega) hy
  have loop : ∀ (f r k : Nat) (y : Int64), 6 * r + k + f = 6 * n → k < 6 → r < n → y = dgN (rlF w) (6 * r + k) x → mR (d + 2) w 101 26 [some (vR (some (8, 0, 1))), some (vL x), none, some (vL y), none, some (vI (Int32.ofNat r)), some (vR (some (5, 0, 6 + 3 * r))), some (vI (Int32.ofNat k))] [] Q := by
    intro f
    induction f with
    | zero => intro r k y hf hk hr hy; omega
    | succ f ih =>
      intro r k y hf hk hr hy
      obtain ⟨np, tp, hA, -, -⟩ := hR r hr
      rw [e_101_26]
      simp (disch := omega) only [e_101_0, e_101_1, e_101_2, e_101_3, e_101_7, e_101_9, e_101_12, e_101_13, e_101_16, e_101_18, e_101_21, e_101_23, e_101_24, e_101_28, e_101_31, e_101_33, e_101_35, e_101_38, e_101_39, e_101_41, e_101_43, e_101_46, e_101_49, e_101_50, e_101_53, e_101_56, e_101_59, e_101_62, e_101_63, i_lit, i_add, i_mul, i_m1, i_lt, i_le, i_eq, i_cl, i_in, i_ltN, i_Nlt, i_leN, i_Nle, i_eN, i_Ne, i_inN, i_l1, i_l2, mj_cpok, mj_nn, reduceCtorEq, lg_self, Nat.not_lt_zero, Nat.zero_le, Nat.reduceEqDiff, Nat.reduceLT, Nat.reduceLeDiff, true_or, or_true, false_or, or_false, not_true_eq_false, not_false_eq_true, true_imp_iff, false_imp_iff, and_self, wrd, u2, and_true, true_and, and_false, false_and, and_self, ite_true, ite_false, reduceIte]
      (repeat' (first | (with_reducible refine And.intro ?_ ?_) | (with_reducible intro _)))
      all_goals try omega
      refine t_70 hA hk ?_
      have hy' : y * 31 + (fcV w r k).toInt64 = dgN (rlF w) (6 * r + k + 1) x := by
        rw [hy]
        show _ = dgN (rlF w) (6 * r + k) x * 31 + (fcV w ((6 * r + k) / 6) ((6 * r + k) % 6)).toInt64
        rw [show (6 * r + k) / 6 = r by omega, show (6 * r + k) % 6 = k by omega]
      simp (disch := omega) only [e_101_0, e_101_1, e_101_2, e_101_3, e_101_7, e_101_9, e_101_12, e_101_13, e_101_16, e_101_18, e_101_21, e_101_23, e_101_24, e_101_28, e_101_31, e_101_33, e_101_35, e_101_38, e_101_39, e_101_41, e_101_43, e_101_46, e_101_49, e_101_50, e_101_53, e_101_56, e_101_59, e_101_62, e_101_63, e_100_0, e_100_1, e_100_4, e_100_5, e_100_6, e_100_7, e_100_8, i_lit, i_add, i_mul, i_m1, i_lt, i_le, i_eq, i_cl, i_in, i_ltN, i_Nlt, i_leN, i_Nle, i_eN, i_Ne, i_inN, i_l1, i_l2, mj_cpok, mj_nn, reduceCtorEq, lg_self, Nat.not_lt_zero, Nat.zero_le, Nat.reduceEqDiff, Nat.reduceLT, Nat.reduceLeDiff, true_or, or_true, false_or, or_false, not_true_eq_false, not_false_eq_true, true_imp_iff, false_imp_iff, and_self, wrd, u2, and_true, true_and, and_false, false_and, and_self, ite_true, ite_false, reduceIte, mK_v]
      by_cases hk6 : k + 1 < 6
      · exact ih r (k + 1) _ (by omega) hk6 hr hy'
      · have hk5 : k = 5 := by omega
        subst hk5
        rw [e_101_26]
        simp (disch := omega) only [e_101_0, e_101_1, e_101_2, e_101_3, e_101_7, e_101_9, e_101_12, e_101_13, e_101_16, e_101_18, e_101_21, e_101_23, e_101_24, e_101_28, e_101_31, e_101_33, e_101_35, e_101_38, e_101_39, e_101_41, e_101_43, e_101_46, e_101_49, e_101_50, e_101_53, e_101_56, e_101_59, e_101_62, e_101_63, i_lit, i_add, i_mul, i_m1, i_lt, i_le, i_eq, i_cl, i_in, i_ltN, i_Nlt, i_leN, i_Nle, i_eN, i_Ne, i_inN, i_l1, i_l2, mj_cpok, mj_nn, reduceCtorEq, lg_self, Nat.not_lt_zero, Nat.zero_le, Nat.reduceEqDiff, Nat.reduceLT, Nat.reduceLeDiff, true_or, or_true, false_or, or_false, not_true_eq_false, not_false_eq_true, true_imp_iff, false_imp_iff, and_self, wrd, u2, and_true, true_and, and_false, false_and, and_self, ite_true, ite_false, reduceIte]
        (repeat' (first | (with_reducible refine And.intro ?_ ?_) | (with_reducible intro _)))
        all_goals try omega
        by_cases hrn : r + 1 < n
        · rw [e_101_5]
          simp (disch := omega) only [e_101_0, e_101_1, e_101_2, e_101_3, e_101_7, e_101_9, e_101_12, e_101_13, e_101_16, e_101_18, e_101_21, e_101_23, e_101_24, e_101_28, e_101_31, e_101_33, e_101_35, e_101_38, e_101_39, e_101_41, e_101_43, e_101_46, e_101_49, e_101_50, e_101_53, e_101_56, e_101_59, e_101_62, e_101_63, e_73_0, e_73_1, e_73_4, e_73_5, e_73_6, e_73_9, e_73_12, e_73_13, e_73_15, e_73_18, e_73_19, e_73_22, e_73_23, e_73_24, e_73_27, e_73_28, i_lit, i_add, i_mul, i_m1, i_lt, i_le, i_eq, i_cl, i_in, i_ltN, i_Nlt, i_leN, i_Nle, i_eN, i_Ne, i_inN, i_l1, i_l2, mj_cpok, mj_nn, reduceCtorEq, lg_self, Nat.not_lt_zero, Nat.zero_le, Nat.reduceEqDiff, Nat.reduceLT, Nat.reduceLeDiff, true_or, or_true, false_or, or_false, not_true_eq_false, not_false_eq_true, true_imp_iff, false_imp_iff, and_self, wrd, u2, and_true, true_and, and_false, false_and, and_self, ite_true, ite_false, reduceIte, mK_v, g_513 G, g_384 G, h1, g_row G (show r + 1 < 12 by omega)]
          (repeat' (first | (with_reducible refine And.intro ?_ ?_) | (with_reducible intro _)))
          all_goals try omega
          exact ih (r + 1) 0 _ (by omega) (by omega) hrn hy'
        · exact done (12 - (r + 1)) (r + 1) _ _ _ (by omega) (by omega) (by rw [hy', show 6 * r + 5 + 1 = 6 * n by omega])
  rw [e_101_0, e_101_1, e_101_2, e_101_3]
  by_cases h0 : 0 < n
  · rw [show (0 : Int32) = Int32.ofNat 0 from rfl, e_101_5]
    simp (disch := omega) only [e_101_0, e_101_1, e_101_2, e_101_3, e_101_7, e_101_9, e_101_12, e_101_13, e_101_16, e_101_18, e_101_21, e_101_23, e_101_24, e_101_28, e_101_31, e_101_33, e_101_35, e_101_38, e_101_39, e_101_41, e_101_43, e_101_46, e_101_49, e_101_50, e_101_53, e_101_56, e_101_59, e_101_62, e_101_63, e_73_0, e_73_1, e_73_4, e_73_5, e_73_6, e_73_9, e_73_12, e_73_13, e_73_15, e_73_18, e_73_19, e_73_22, e_73_23, e_73_24, e_73_27, e_73_28, i_lit, i_add, i_mul, i_m1, i_lt, i_le, i_eq, i_cl, i_in, i_ltN, i_Nlt, i_leN, i_Nle, i_eN, i_Ne, i_inN, i_l1, i_l2, mj_cpok, mj_nn, reduceCtorEq, lg_self, Nat.not_lt_zero, Nat.zero_le, Nat.reduceEqDiff, Nat.reduceLT, Nat.reduceLeDiff, true_or, or_true, false_or, or_false, not_true_eq_false, not_false_eq_true, true_imp_iff, false_imp_iff, and_self, wrd, u2, and_true, true_and, and_false, false_and, and_self, ite_true, ite_false, reduceIte, mK_v, g_513 G, g_384 G, h1, g_row G (show 0 < 12 by omega)]
    (repeat' (first | (with_reducible refine And.intro ?_ ?_) | (with_reducible intro _)))
    all_goals try omega
    exact loop (6 * n) 0 0 x (by omega) (by omega) h0 rfl
  · exact done 12 0 x _ _ (by omega) (by omega) (by rw [show 6 * n = 0 by omega]; rfl)
theorem s_102 {c m n : Nat} {mv an : Nat → Option Nat} {x : Int64} (hgs : grS w c) (hm : m < 4) (hA : MachA w c m n mv an) (h : Q (.inl (some (vL (dgN (wAI w (145 + m)) (9 * n) (mx x (Int32.ofNat n)))))) w) :
    mR (d + 2) w 102 0 [some (vL x), none, some (vR (some (1, 0, c + 2 + 8 * m))), none, none, none, none] [] Q := by
  have hn := hA.1
  have loop : ∀ (f s l : Nat) (y : Int64), 9 * s + 1 + l + f = 9 * n → l < 8 → s < n → y = dgN (wAI w (145 + m)) (9 * s + 1 + l) (mx x (Int32.ofNat n)) → mR (d + 2) w 102 48 [some (vL x), none, some (vR (some (1, 0, c + 2 + 8 * m))), some (vL y), none, some (vI (Int32.ofNat s)), some (vI (Int32.ofNat l))] [] Q := by
    intro f
    induction f using Nat.strongRecOn with
    | ind f ih =>
      intro s l y hf hl hs hy
      have e1 := (hA.2.2.2.2 s l hs hl).1
      rw [Nat.mul_comm 8 s] at e1
      have e2 := (hA.2.2.2.2 s l hs hl).2
      rw [Nat.mul_comm 8 s] at e2
      rw [e_102_48]
      simp (disch := omega) only [e_102_0, e_102_1, e_102_4, e_102_5, e_102_6, e_102_7, e_102_8, e_102_11, e_102_14, e_102_15, e_102_16, e_102_20, e_102_21, e_102_24, e_102_27, e_102_29, e_102_31, e_102_34, e_102_35, e_102_36, e_102_38, e_102_41, e_102_44, e_102_45, e_102_46, e_102_50, e_102_52, e_102_55, e_102_56, e_102_57, e_102_59, e_102_61, e_102_64, e_102_67, e_102_68, e_102_71, e_102_74, e_102_77, e_102_80, e_102_81, e_100_0, e_100_1, e_100_4, e_100_5, e_100_6, e_100_7, e_100_8, e_17_0, e_17_1, e_17_2, e_17_5, e_17_8, e_17_9, e_17_12, e_17_13, e_17_15, e_17_18, e_17_19, e_17_22, e_17_23, e_17_25, e_17_26, e_17_27, e_17_28, e_17_29, e_17_32, e_17_33, e_16_0, e_16_1, e_16_4, e_16_5, e_16_6, e_16_9, e_16_12, e_16_13, e_16_15, e_16_18, e_16_19, e_16_22, e_16_23, i_lit, i_add, i_mul, i_m1, i_lt, i_le, i_eq, i_cl, i_in, i_ltN, i_Nlt, i_leN, i_Nle, i_eN, i_Ne, i_inN, i_l1, i_l2, mj_cpok, mj_nn, reduceCtorEq, lg_self, Nat.not_lt_zero, Nat.zero_le, Nat.reduceEqDiff, Nat.reduceLT, Nat.reduceLeDiff, true_or, or_true, false_or, or_false, not_true_eq_false, not_false_eq_true, true_imp_iff, false_imp_iff, and_self, wrd, u2, and_true, true_and, and_false, false_and, and_self, ite_true, ite_false, reduceIte, mK_v, hA.2.1, gs_64 hgs hm, e1]
      (repeat' (first | (with_reducible refine And.intro ?_ ?_) | (with_reducible intro _)))
      all_goals try omega
      have hy' : y * 31 + (en (mv (s * 8 + l))).toInt64 = dgN (wAI w (145 + m)) (9 * s + 1 + l + 1) (mx x (Int32.ofNat n)) := by
        rw [hy, ← e2]; rfl
      by_cases hl8 : l + 1 < 8
      · exact ih (f - 1) (by omega) s (l + 1) _ (by omega) hl8 hs hy'
      · have hl7 : l = 7 := by omega
        subst hl7
        rw [e_102_48]
        simp (disch := omega) only [e_102_0, e_102_1, e_102_4, e_102_5, e_102_6, e_102_7, e_102_8, e_102_11, e_102_14, e_102_15, e_102_16, e_102_20, e_102_21, e_102_24, e_102_27, e_102_29, e_102_31, e_102_34, e_102_35, e_102_36, e_102_38, e_102_41, e_102_44, e_102_45, e_102_46, e_102_50, e_102_52, e_102_55, e_102_56, e_102_57, e_102_59, e_102_61, e_102_64, e_102_67, e_102_68, e_102_71, e_102_74, e_102_77, e_102_80, e_102_81, i_lit, i_add, i_mul, i_m1, i_lt, i_le, i_eq, i_cl, i_in, i_ltN, i_Nlt, i_leN, i_Nle, i_eN, i_Ne, i_inN, i_l1, i_l2, mj_cpok, mj_nn, reduceCtorEq, lg_self, Nat.not_lt_zero, Nat.zero_le, Nat.reduceEqDiff, Nat.reduceLT, Nat.reduceLeDiff, true_or, or_true, false_or, or_false, not_true_eq_false, not_false_eq_true, true_imp_iff, false_imp_iff, and_self, wrd, u2, and_true, true_and, and_false, false_and, and_self, ite_true, ite_false, reduceIte]
        (repeat' (first | (with_reducible refine And.intro ?_ ?_) | (with_reducible intro _)))
        all_goals try omega
        by_cases hsn : s + 1 < n
        · have a1 := (hA.2.2.2.1 (s + 1) hsn).1
          have a2 := (hA.2.2.2.1 (s + 1) hsn).2
          rw [e_102_18]
          simp (disch := omega) only [e_102_0, e_102_1, e_102_4, e_102_5, e_102_6, e_102_7, e_102_8, e_102_11, e_102_14, e_102_15, e_102_16, e_102_20, e_102_21, e_102_24, e_102_27, e_102_29, e_102_31, e_102_34, e_102_35, e_102_36, e_102_38, e_102_41, e_102_44, e_102_45, e_102_46, e_102_50, e_102_52, e_102_55, e_102_56, e_102_57, e_102_59, e_102_61, e_102_64, e_102_67, e_102_68, e_102_71, e_102_74, e_102_77, e_102_80, e_102_81, e_100_0, e_100_1, e_100_4, e_100_5, e_100_6, e_100_7, e_100_8, e_18_0, e_18_1, e_18_2, e_18_5, e_18_8, e_18_9, e_18_12, e_18_13, e_18_14, e_18_17, e_18_18, e_16_0, e_16_1, e_16_4, e_16_5, e_16_6, e_16_9, e_16_12, e_16_13, e_16_15, e_16_18, e_16_19, e_16_22, e_16_23, i_lit, i_add, i_mul, i_m1, i_lt, i_le, i_eq, i_cl, i_in, i_ltN, i_Nlt, i_leN, i_Nle, i_eN, i_Ne, i_inN, i_l1, i_l2, mj_cpok, mj_nn, reduceCtorEq, lg_self, Nat.not_lt_zero, Nat.zero_le, Nat.reduceEqDiff, Nat.reduceLT, Nat.reduceLeDiff, true_or, or_true, false_or, or_false, not_true_eq_false, not_false_eq_true, true_imp_iff, false_imp_iff, and_self, wrd, u2, and_true, true_and, and_false, false_and, and_self, ite_true, ite_false, reduceIte, mK_v, hA.2.1, gs_65 hgs hm, a1]
          (repeat' (first | (with_reducible refine And.intro ?_ ?_) | (with_reducible intro _)))
          all_goals try omega
          refine ih (f - 2) (by omega) (s + 1) 0 _ (by omega) (by omega) hsn ?_
          rw [hy', ← a2]
          show _ = dgN _ (9 * (s + 1) + 0 + 1) _
          rw [show 9 * (s + 1) + 0 + 1 = 9 * s + 1 + 7 + 1 + 1 by omega]
          show _ = mx (dgN _ (9 * s + 1 + 7 + 1) _) (wAI w (145 + m) (9 * s + 1 + 7 + 1))
          rw [show 9 * (s + 1) = 9 * s + 1 + 7 + 1 by omega]; rfl
        · rw [e_102_18]
          simp (disch := omega) only [e_102_0, e_102_1, e_102_4, e_102_5, e_102_6, e_102_7, e_102_8, e_102_11, e_102_14, e_102_15, e_102_16, e_102_20, e_102_21, e_102_24, e_102_27, e_102_29, e_102_31, e_102_34, e_102_35, e_102_36, e_102_38, e_102_41, e_102_44, e_102_45, e_102_46, e_102_50, e_102_52, e_102_55, e_102_56, e_102_57, e_102_59, e_102_61, e_102_64, e_102_67, e_102_68, e_102_71, e_102_74, e_102_77, e_102_80, e_102_81, i_lit, i_add, i_mul, i_m1, i_lt, i_le, i_eq, i_cl, i_in, i_ltN, i_Nlt, i_leN, i_Nle, i_eN, i_Ne, i_inN, i_l1, i_l2, mj_cpok, mj_nn, reduceCtorEq, lg_self, Nat.not_lt_zero, Nat.zero_le, Nat.reduceEqDiff, Nat.reduceLT, Nat.reduceLeDiff, true_or, or_true, false_or, or_false, not_true_eq_false, not_false_eq_true, true_imp_iff, false_imp_iff, and_self, wrd, u2, and_true, true_and, and_false, false_and, and_self, ite_true, ite_false, reduceIte, hA.2.1]
          (repeat' (first | (with_reducible refine And.intro ?_ ?_) | (with_reducible intro _)))
          all_goals try omega
          rw [hy', show 9 * s + 1 + 7 + 1 = 9 * n by omega]; exact h
  simp (disch := omega) only [e_102_0, e_102_1, e_102_4, e_102_5, e_102_6, e_102_7, e_102_8, e_102_11, e_102_14, e_102_15, e_102_16, e_102_20, e_102_21, e_102_24, e_102_27, e_102_29, e_102_31, e_102_34, e_102_35, e_102_36, e_102_38, e_102_41, e_102_44, e_102_45, e_102_46, e_102_50, e_102_52, e_102_55, e_102_56, e_102_57, e_102_59, e_102_61, e_102_64, e_102_67, e_102_68, e_102_71, e_102_74, e_102_77, e_102_80, e_102_81, e_100_0, e_100_1, e_100_4, e_100_5, e_100_6, e_100_7, e_100_8, i_lit, i_add, i_mul, i_m1, i_lt, i_le, i_eq, i_cl, i_in, i_ltN, i_Nlt, i_leN, i_Nle, i_eN, i_Ne, i_inN, i_l1, i_l2, mj_cpok, mj_nn, reduceCtorEq, lg_self, Nat.not_lt_zero, Nat.zero_le, Nat.reduceEqDiff, Nat.reduceLT, Nat.reduceLeDiff, true_or, or_true, false_or, or_false, not_true_eq_false, not_false_eq_true, true_imp_iff, false_imp_iff, and_self, wrd, u2, and_true, true_and, and_false, false_and, and_self, ite_true, ite_false, reduceIte, mK_v, hA.2.1]
  by_cases h0 : 0 < n
  · have a1 := (hA.2.2.2.1 0 h0).1
    have a2 := (hA.2.2.2.1 0 h0).2
    rw [e_102_18]
    simp (disch := omega) only [e_102_0, e_102_1, e_102_4, e_102_5, e_102_6, e_102_7, e_102_8, e_102_11, e_102_14, e_102_15, e_102_16, e_102_20, e_102_21, e_102_24, e_102_27, e_102_29, e_102_31, e_102_34, e_102_35, e_102_36, e_102_38, e_102_41, e_102_44, e_102_45, e_102_46, e_102_50, e_102_52, e_102_55, e_102_56, e_102_57, e_102_59, e_102_61, e_102_64, e_102_67, e_102_68, e_102_71, e_102_74, e_102_77, e_102_80, e_102_81, e_100_0, e_100_1, e_100_4, e_100_5, e_100_6, e_100_7, e_100_8, e_18_0, e_18_1, e_18_2, e_18_5, e_18_8, e_18_9, e_18_12, e_18_13, e_18_14, e_18_17, e_18_18, e_16_0, e_16_1, e_16_4, e_16_5, e_16_6, e_16_9, e_16_12, e_16_13, e_16_15, e_16_18, e_16_19, e_16_22, e_16_23, i_lit, i_add, i_mul, i_m1, i_lt, i_le, i_eq, i_cl, i_in, i_ltN, i_Nlt, i_leN, i_Nle, i_eN, i_Ne, i_inN, i_l1, i_l2, mj_cpok, mj_nn, reduceCtorEq, lg_self, Nat.not_lt_zero, Nat.zero_le, Nat.reduceEqDiff, Nat.reduceLT, Nat.reduceLeDiff, true_or, or_true, false_or, or_false, not_true_eq_false, not_false_eq_true, true_imp_iff, false_imp_iff, and_self, wrd, u2, and_true, true_and, and_false, false_and, and_self, ite_true, ite_false, reduceIte, mK_v, hA.2.1, gs_65 hgs hm, a1]
    (repeat' (first | (with_reducible refine And.intro ?_ ?_) | (with_reducible intro _)))
    all_goals try omega
    exact loop (9 * n - 1) 0 0 _ (by omega) (by omega) h0 (by rw [← a2]; rfl)
  · rw [e_102_18]
    simp (disch := omega) only [e_102_0, e_102_1, e_102_4, e_102_5, e_102_6, e_102_7, e_102_8, e_102_11, e_102_14, e_102_15, e_102_16, e_102_20, e_102_21, e_102_24, e_102_27, e_102_29, e_102_31, e_102_34, e_102_35, e_102_36, e_102_38, e_102_41, e_102_44, e_102_45, e_102_46, e_102_50, e_102_52, e_102_55, e_102_56, e_102_57, e_102_59, e_102_61, e_102_64, e_102_67, e_102_68, e_102_71, e_102_74, e_102_77, e_102_80, e_102_81, i_lit, i_add, i_mul, i_m1, i_lt, i_le, i_eq, i_cl, i_in, i_ltN, i_Nlt, i_leN, i_Nle, i_eN, i_Ne, i_inN, i_l1, i_l2, mj_cpok, mj_nn, reduceCtorEq, lg_self, Nat.not_lt_zero, Nat.zero_le, Nat.reduceEqDiff, Nat.reduceLT, Nat.reduceLeDiff, true_or, or_true, false_or, or_false, not_true_eq_false, not_false_eq_true, true_imp_iff, false_imp_iff, and_self, wrd, u2, and_true, true_and, and_false, false_and, and_self, ite_true, ite_false, reduceIte, hA.2.1]
    (repeat' (first | (with_reducible refine And.intro ?_ ?_) | (with_reducible intro _)))
    all_goals try omega
    rw [show 9 * n = 0 by omega] at h; exact h
theorem s_103 {n : Nat} {x : Int64} (G : Gr w) (hn : n ≤ 500) (h1 : wFI w 2 57 = Int32.ofNat n) (h : Q (.inl (some (vL (dgN (wAI w 58) (4 * n) x)))) w) :
    mR (d + 2) w 103 0 [some (vR (some (8, 0, 1))), some (vL x), none, none, none, none, none] [] Q := by
  have loop : ∀ (f t k : Nat) (y : Int64), 4 * t + k + f = 4 * n → k < 4 → t < n → y = dgN (wAI w 58) (4 * t + k) x → mR (d + 2) w 103 28 [some (vR (some (8, 0, 1))), some (vL x), none, some (vL y), none, some (vI (Int32.ofNat t)), some (vI (Int32.ofNat k))] [] Q := by
    intro f
    induction f with
    | zero => intro t k y hf hk ht hy; omega
    | succ f ih =>
      intro t k y hf hk ht hy
      rw [e_103_28]
      simp (disch := omega) only [e_103_0, e_103_1, e_103_2, e_103_3, e_103_7, e_103_8, e_103_11, e_103_14, e_103_17, e_103_19, e_103_22, e_103_25, e_103_26, e_103_30, e_103_31, e_103_34, e_103_35, e_103_36, e_103_39, e_103_41, e_103_43, e_103_46, e_103_49, e_103_50, e_103_53, e_103_56, e_103_59, e_103_62, e_103_63, e_100_0, e_100_1, e_100_4, e_100_5, e_100_6, e_100_7, e_100_8, e_2_0, e_2_1, e_2_2, e_2_3, e_2_4, e_2_5, e_2_6, e_2_7, e_2_10, e_2_11, e_2_14, e_2_17, e_2_18, e_2_21, e_2_22, e_2_23, e_2_26, e_2_27, i_lit, i_add, i_mul, i_m1, i_lt, i_le, i_eq, i_cl, i_in, i_ltN, i_Nlt, i_leN, i_Nle, i_eN, i_Ne, i_inN, i_l1, i_l2, mj_cpok, mj_nn, reduceCtorEq, lg_self, Nat.not_lt_zero, Nat.zero_le, Nat.reduceEqDiff, Nat.reduceLT, Nat.reduceLeDiff, true_or, or_true, false_or, or_false, not_true_eq_false, not_false_eq_true, true_imp_iff, false_imp_iff, and_self, wrd, u2, and_true, true_and, and_false, false_and, and_self, ite_true, ite_false, reduceIte, mK_v, g_516 G, g_0 G]
      (repeat' (first | (with_reducible refine And.intro ?_ ?_) | (with_reducible intro _)))
      all_goals try omega
      have hy' : y * 31 + (wAI w 58 (t * 4 + k)).toInt64 = dgN (wAI w 58) (4 * t + k + 1) x := by
        rw [hy, Nat.mul_comm t 4]; rfl
      by_cases hk4 : k + 1 < 4
      · exact ih t (k + 1) _ (by omega) hk4 ht hy'
      · have hk3 : k = 3 := by omega
        subst hk3
        rw [e_103_28]
        simp (disch := omega) only [e_103_0, e_103_1, e_103_2, e_103_3, e_103_7, e_103_8, e_103_11, e_103_14, e_103_17, e_103_19, e_103_22, e_103_25, e_103_26, e_103_30, e_103_31, e_103_34, e_103_35, e_103_36, e_103_39, e_103_41, e_103_43, e_103_46, e_103_49, e_103_50, e_103_53, e_103_56, e_103_59, e_103_62, e_103_63, i_lit, i_add, i_mul, i_m1, i_lt, i_le, i_eq, i_cl, i_in, i_ltN, i_Nlt, i_leN, i_Nle, i_eN, i_Ne, i_inN, i_l1, i_l2, mj_cpok, mj_nn, reduceCtorEq, lg_self, Nat.not_lt_zero, Nat.zero_le, Nat.reduceEqDiff, Nat.reduceLT, Nat.reduceLeDiff, true_or, or_true, false_or, or_false, not_true_eq_false, not_false_eq_true, true_imp_iff, false_imp_iff, and_self, wrd, u2, and_true, true_and, and_false, false_and, and_self, ite_true, ite_false, reduceIte]
        (repeat' (first | (with_reducible refine And.intro ?_ ?_) | (with_reducible intro _)))
        all_goals try omega
        rw [e_103_5]
        simp (disch := omega) only [e_103_0, e_103_1, e_103_2, e_103_3, e_103_7, e_103_8, e_103_11, e_103_14, e_103_17, e_103_19, e_103_22, e_103_25, e_103_26, e_103_30, e_103_31, e_103_34, e_103_35, e_103_36, e_103_39, e_103_41, e_103_43, e_103_46, e_103_49, e_103_50, e_103_53, e_103_56, e_103_59, e_103_62, e_103_63, i_lit, i_add, i_mul, i_m1, i_lt, i_le, i_eq, i_cl, i_in, i_ltN, i_Nlt, i_leN, i_Nle, i_eN, i_Ne, i_inN, i_l1, i_l2, mj_cpok, mj_nn, reduceCtorEq, lg_self, Nat.not_lt_zero, Nat.zero_le, Nat.reduceEqDiff, Nat.reduceLT, Nat.reduceLeDiff, true_or, or_true, false_or, or_false, not_true_eq_false, not_false_eq_true, true_imp_iff, false_imp_iff, and_self, wrd, u2, and_true, true_and, and_false, false_and, and_self, ite_true, ite_false, reduceIte, g_516 G, h1]
        (repeat' (first | (with_reducible refine And.intro ?_ ?_) | (with_reducible intro _)))
        all_goals try omega
        · rw [hy', show 4 * t + 3 + 1 = 4 * n by omega]; exact h
        · exact ih (t + 1) 0 _ (by omega) (by omega) (by omega) hy'
  rw [e_103_0, e_103_1, e_103_2, e_103_3]
  rw [show (0 : Int32) = Int32.ofNat 0 from rfl, e_103_5]
  simp (disch := omega) only [e_103_0, e_103_1, e_103_2, e_103_3, e_103_7, e_103_8, e_103_11, e_103_14, e_103_17, e_103_19, e_103_22, e_103_25, e_103_26, e_103_30, e_103_31, e_103_34, e_103_35, e_103_36, e_103_39, e_103_41, e_103_43, e_103_46, e_103_49, e_103_50, e_103_53, e_103_56, e_103_59, e_103_62, e_103_63, i_lit, i_add, i_mul, i_m1, i_lt, i_le, i_eq, i_cl, i_in, i_ltN, i_Nlt, i_leN, i_Nle, i_eN, i_Ne, i_inN, i_l1, i_l2, mj_cpok, mj_nn, reduceCtorEq, lg_self, Nat.not_lt_zero, Nat.zero_le, Nat.reduceEqDiff, Nat.reduceLT, Nat.reduceLeDiff, true_or, or_true, false_or, or_false, not_true_eq_false, not_false_eq_true, true_imp_iff, false_imp_iff, and_self, wrd, u2, and_true, true_and, and_false, false_and, and_self, ite_true, ite_false, reduceIte, g_516 G, h1]
  (repeat' (first | (with_reducible refine And.intro ?_ ?_) | (with_reducible intro _)))
  all_goals try omega
  · rw [show 4 * n = 0 by omega] at h; exact h
  · exact loop (4 * n) 0 0 x (by omega) (by omega) (by omega) rfl
end DG
