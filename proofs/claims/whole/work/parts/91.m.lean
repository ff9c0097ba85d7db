/-! addRule: the class reads a pattern: its end. -/
theorem cG_cF {W U : MWd} {r : Nat} (h : Fr (fun _ _ => False) (fun a => a = 43) 0 0 W U) : Fr (cG r) (cB r) 0 0 W U := Fr_weak h (fun _ _ q => q.elim) (fun _ q => Or.inl q) (Nat.le_refl _) (Nat.le_refl _)
section CL
variable {d : Nat} {W : MWd} {r : Nat} {Q : MRes → MWd → Prop}
/-- from the place of the look on -/
theorem c_40e {n i tp t : Nat} {S : Nat → Nat} {fo lt : Nat → Int32} {f l : Int32} {e : Bool} (hn : n ≤ 1000) (hS : sgOk S) (hr : r < 12) (G : Gr W) (hs : clS S W) (hc : clR W r t i tp fo lt) (hi : i ≤ 40) (htp : tp ≤ 30) (hf : ∀ p, tp ≤ p → fo p = Int32.ofNat 0) (h449 : wFI W 449 2 = Int32.ofNat n)
    (h325 : wFI W 325 (6 + 3 * r) = Int32.ofNat 0) (h327 : wFI W 327 (6 + 3 * r) = tokM tp) (h328 : wFI W 328 (6 + 3 * r) = f) (h330 : wFI W 330 (6 + 3 * r) = l) (h329 : wFI W 329 (6 + 3 * r) = l) (h332 : wFI W 332 (6 + 3 * r) = b2 e) (hE : eitG S 6 0 0 (fun _ => Int32.ofNat 0) (fun _ => Int32.ofNat 0) = .inr (i, tp, fo, lt, f, l, e))
    (K0 : ∀ U e, patP n S = .inl e → e ≤ 40 → Fr (cG r) (cB r) 0 0 W U → Q (.inl (some (vI (Int32.ofNat e)))) U)
    (K1 : ∀ U tp i np fo lt f l e hl f2 l2 e2, patP n S = .inr (tp, (i, np, fo, lt, f, l, e), hl, f2, l2, e2) → Fr (cG r) (cB r) 0 0 W U → clW U r tp np fo lt f l e hl f2 l2 e2 → Q (.inl (some (vI NN))) U) :
    mR (d + 39) W 40 76 [some (vR (some (4, 0, 42))), some (vR (some (7, 0, 2))), some (vR (some (5, 0, 6 + 3 * r))), some (vI (Int32.ofNat 40))] [] Q := by
  unfold patP at K0 K1
  rw [hE] at K0 K1
  dsimp only at K0 K1
  have hb := hS i
  -- the end, when all is read
  have fin : ∀ (U : MWd) (i2 : Nat), i2 ≤ 40 → Fr (cG r) (cB r) 0 0 W U → wFI U 262 42 = NN → wFI U 261 42 = Int32.ofNat i2 → (i2 < n → Q (.inl (some (vI (Int32.ofNat i2)))) (sFI U 262 42 (Int32.ofNat i2))) → (¬ i2 < n → Q (.inl (some (vI NN))) U) →
      mR (d + 39) U 40 90 [some (vR (some (4, 0, 42))), some (vR (some (7, 0, 2))), some (vR (some (5, 0, 6 + 3 * r))), some (vI (Int32.ofNat 40))] [] Q := by
    intro U i2 hi2 hU h2 h1 k1 k2
    have a449 : wFI U 449 2 = Int32.ofNat n := (Fr_fi hU (by decide) (by omega)).trans h449
    have h51 : i2 < n → mR (d + 38) U 51 0 [some (vR (some (4, 0, 42)))] [] (mK (d + 39) 40 102 105 [some (vR (some (4, 0, 42))), some (vR (some (7, 0, 2))), some (vR (some (5, 0, 6 + 3 * r))), some (vI (Int32.ofNat 40))] [] Q) := fun h => by
      have k := k1 h
      refine c_51 h2 h1 ?_
      simp (disch := omega) only [e_40_0, e_40_1, e_40_3, e_40_5, e_40_8, e_40_9, e_40_12, e_40_13, e_40_14, e_40_15, e_40_18, e_40_19, e_40_22, e_40_25, e_40_26, e_40_27, e_40_30, e_40_31, e_40_32, e_40_35, e_40_36, e_40_37, e_40_40, e_40_41, e_40_42, e_40_43, e_40_46, e_40_47, e_40_50, e_40_51, e_40_54, e_40_55, e_40_56, e_40_59, e_40_60, e_40_61, e_40_62, e_40_65, e_40_66, e_40_67, e_40_68, e_40_71, e_40_72, e_40_73, e_40_76, e_40_77, e_40_80, e_40_82, e_40_85, e_40_86, e_40_87, e_40_90, e_40_91, e_40_94, e_40_95, e_40_98, e_40_101, e_40_102, e_40_105, e_40_106, e_40_109, i_lit, i_add, i_mul, i_m1, i_lt, i_le, i_eq, i_cl, i_in, i_ltN, i_Nlt, i_leN, i_Nle, i_eN, i_Ne, i_inN, i_l1, i_l2, mj_cpok, mj_nn, reduceCtorEq, lg_self, Nat.not_lt_zero, Nat.zero_le, Nat.reduceEqDiff, Nat.reduceLT, Nat.reduceLeDiff, true_or, or_true, false_or, or_false, not_true_eq_false, not_false_eq_true, true_imp_iff, false_imp_iff, and_self, wrd, u2, and_true, true_and, and_false, false_and, and_self, ite_true, ite_false, reduceIte, mK_n]
      exact k
    simp (disch := omega) only [e_40_0, e_40_1, e_40_3, e_40_5, e_40_8, e_40_9, e_40_12, e_40_13, e_40_14, e_40_15, e_40_18, e_40_19, e_40_22, e_40_25, e_40_26, e_40_27, e_40_30, e_40_31, e_40_32, e_40_35, e_40_36, e_40_37, e_40_40, e_40_41, e_40_42, e_40_43, e_40_46, e_40_47, e_40_50, e_40_51, e_40_54, e_40_55, e_40_56, e_40_59, e_40_60, e_40_61, e_40_62, e_40_65, e_40_66, e_40_67, e_40_68, e_40_71, e_40_72, e_40_73, e_40_76, e_40_77, e_40_80, e_40_82, e_40_85, e_40_86, e_40_87, e_40_90, e_40_91, e_40_94, e_40_95, e_40_98, e_40_101, e_40_102, e_40_105, e_40_106, e_40_109, i_lit, i_add, i_mul, i_m1, i_lt, i_le, i_eq, i_cl, i_in, i_ltN, i_Nlt, i_leN, i_Nle, i_eN, i_Ne, i_inN, i_l1, i_l2, mj_cpok, mj_nn, reduceCtorEq, lg_self, Nat.not_lt_zero, Nat.zero_le, Nat.reduceEqDiff, Nat.reduceLT, Nat.reduceLeDiff, true_or, or_true, false_or, or_false, not_true_eq_false, not_false_eq_true, true_imp_iff, false_imp_iff, and_self, wrd, u2, and_true, true_and, and_false, false_and, and_self, ite_true, ite_false, reduceIte, h1, h2, a449]
    (repeat' (first | (with_reducible refine And.intro ?_ ?_) | (with_reducible intro _)))
    · rename_i h; exact k2 (by omega)
    · rename_i h; exact h51 (by omega)
  by_cases c : S i = 47
  · rw [if_pos c] at K0 K1
    have n41 : mR (d + 38) W 41 0 [some (vR (some (4, 0, 42))), some (vR (some (5, 0, 6 + 3 * r)))] [] (mK (d + 39) 40 87 90 [some (vR (some (4, 0, 42))), some (vR (some (7, 0, 2))), some (vR (some (5, 0, 6 + 3 * r))), some (vI (Int32.ofNat 40))] [] Q) := by
      have hok := eitG_ok hS 6 (i + 1) tp fo lt (by omega) htp hf
      refine c_41 (d := d) (l := l) hS hr G hs hc (by omega) htp hf h330 (fun U er hx hU u2 => ?_) (fun U i2 np fo2 lt2 f2 l2 e2 hx hU u2 u1 x5 x6 x1 x3 x9 xk x7 x8 => ?_)
      · rw [hx] at K0 hok
        have he : er ≤ 40 := hok
        have a449 : wFI U 449 2 = Int32.ofNat n := (Fr_fi hU (by decide) (by omega)).trans h449
        have k0 := K0 U er rfl he hU
        have h51 : mR (d + 38) U 51 0 [some (vR (some (4, 0, 42)))] [] (mK (d + 39) 40 102 105 [some (vR (some (4, 0, 42))), some (vR (some (7, 0, 2))), some (vR (some (5, 0, 6 + 3 * r))), some (vI (Int32.ofNat 40))] [] Q) := by
          refine c_51d he u2 ?_
          simp (disch := omega) only [e_40_0, e_40_1, e_40_3, e_40_5, e_40_8, e_40_9, e_40_12, e_40_13, e_40_14, e_40_15, e_40_18, e_40_19, e_40_22, e_40_25, e_40_26, e_40_27, e_40_30, e_40_31, e_40_32, e_40_35, e_40_36, e_40_37, e_40_40, e_40_41, e_40_42, e_40_43, e_40_46, e_40_47, e_40_50, e_40_51, e_40_54, e_40_55, e_40_56, e_40_59, e_40_60, e_40_61, e_40_62, e_40_65, e_40_66, e_40_67, e_40_68, e_40_71, e_40_72, e_40_73, e_40_76, e_40_77, e_40_80, e_40_82, e_40_85, e_40_86, e_40_87, e_40_90, e_40_91, e_40_94, e_40_95, e_40_98, e_40_101, e_40_102, e_40_105, e_40_106, e_40_109, i_lit, i_add, i_mul, i_m1, i_lt, i_le, i_eq, i_cl, i_in, i_ltN, i_Nlt, i_leN, i_Nle, i_eN, i_Ne, i_inN, i_l1, i_l2, mj_cpok, mj_nn, reduceCtorEq, lg_self, Nat.not_lt_zero, Nat.zero_le, Nat.reduceEqDiff, Nat.reduceLT, Nat.reduceLeDiff, true_or, or_true, false_or, or_false, not_true_eq_false, not_false_eq_true, true_imp_iff, false_imp_iff, and_self, wrd, u2, and_true, true_and, and_false, false_and, and_self, ite_true, ite_false, reduceIte, mK_n, u2]
          exact k0
        simp (disch := omega) only [e_40_0, e_40_1, e_40_3, e_40_5, e_40_8, e_40_9, e_40_12, e_40_13, e_40_14, e_40_15, e_40_18, e_40_19, e_40_22, e_40_25, e_40_26, e_40_27, e_40_30, e_40_31, e_40_32, e_40_35, e_40_36, e_40_37, e_40_40, e_40_41, e_40_42, e_40_43, e_40_46, e_40_47, e_40_50, e_40_51, e_40_54, e_40_55, e_40_56, e_40_59, e_40_60, e_40_61, e_40_62, e_40_65, e_40_66, e_40_67, e_40_68, e_40_71, e_40_72, e_40_73, e_40_76, e_40_77, e_40_80, e_40_82, e_40_85, e_40_86, e_40_87, e_40_90, e_40_91, e_40_94, e_40_95, e_40_98, e_40_101, e_40_102, e_40_105, e_40_106, e_40_109, i_lit, i_add, i_mul, i_m1, i_lt, i_le, i_eq, i_cl, i_in, i_ltN, i_Nlt, i_leN, i_Nle, i_eN, i_Ne, i_inN, i_l1, i_l2, mj_cpok, mj_nn, reduceCtorEq, lg_self, Nat.not_lt_zero, Nat.zero_le, Nat.reduceEqDiff, Nat.reduceLT, Nat.reduceLeDiff, true_or, or_true, false_or, or_false, not_true_eq_false, not_false_eq_true, true_imp_iff, false_imp_iff, and_self, wrd, u2, and_true, true_and, and_false, false_and, and_self, ite_true, ite_false, reduceIte, mK_n, a449, u2]
        (repeat' (first | (with_reducible refine And.intro ?_ ?_) | (with_reducible intro _)))
        all_goals first | omega | exact k0 | exact h51
      · rw [hx] at K0 K1 hok
        dsimp only at K0 K1
        have hi2 : i2 ≤ 40 := hok.2.1
        rw [mK_n]
        refine fin U i2 hi2 hU u2 u1 (fun h => ?_) (fun h => ?_)
        · rw [if_pos h] at K0
          exact K0 _ i2 rfl hi2 (Fr_sFI hU (by omega))
        · rw [if_neg h] at K1
          refine K1 U tp i2 np fo2 lt2 f l e true f2 l2 e2 rfl hU ⟨x5, x6, (xk 327 (by omega)).trans h327, (xk 328 (by omega)).trans h328, (xk 330 (by omega)).trans h330, (xk 332 (by omega)).trans h332, x9, fun _ => ⟨x1, x3⟩, x7, x8⟩
    simp (disch := omega) only [e_40_0, e_40_1, e_40_3, e_40_5, e_40_8, e_40_9, e_40_12, e_40_13, e_40_14, e_40_15, e_40_18, e_40_19, e_40_22, e_40_25, e_40_26, e_40_27, e_40_30, e_40_31, e_40_32, e_40_35, e_40_36, e_40_37, e_40_40, e_40_41, e_40_42, e_40_43, e_40_46, e_40_47, e_40_50, e_40_51, e_40_54, e_40_55, e_40_56, e_40_59, e_40_60, e_40_61, e_40_62, e_40_65, e_40_66, e_40_67, e_40_68, e_40_71, e_40_72, e_40_73, e_40_76, e_40_77, e_40_80, e_40_82, e_40_85, e_40_86, e_40_87, e_40_90, e_40_91, e_40_94, e_40_95, e_40_98, e_40_101, e_40_102, e_40_105, e_40_106, e_40_109, i_lit, i_add, i_mul, i_m1, i_lt, i_le, i_eq, i_cl, i_in, i_ltN, i_Nlt, i_leN, i_Nle, i_eN, i_Ne, i_inN, i_l1, i_l2, mj_cpok, mj_nn, reduceCtorEq, lg_self, Nat.not_lt_zero, Nat.zero_le, Nat.reduceEqDiff, Nat.reduceLT, Nat.reduceLeDiff, true_or, or_true, false_or, or_false, not_true_eq_false, not_false_eq_true, true_imp_iff, false_imp_iff, and_self, wrd, u2, and_true, true_and, and_false, false_and, and_self, ite_true, ite_false, reduceIte]
    refine c_52 G hS hs hc.1 hc.2.1 hi ?_
    rw [c, show sgI 47 = Int32.ofNat 47 from rfl]
    simp (disch := omega) only [e_40_0, e_40_1, e_40_3, e_40_5, e_40_8, e_40_9, e_40_12, e_40_13, e_40_14, e_40_15, e_40_18, e_40_19, e_40_22, e_40_25, e_40_26, e_40_27, e_40_30, e_40_31, e_40_32, e_40_35, e_40_36, e_40_37, e_40_40, e_40_41, e_40_42, e_40_43, e_40_46, e_40_47, e_40_50, e_40_51, e_40_54, e_40_55, e_40_56, e_40_59, e_40_60, e_40_61, e_40_62, e_40_65, e_40_66, e_40_67, e_40_68, e_40_71, e_40_72, e_40_73, e_40_76, e_40_77, e_40_80, e_40_82, e_40_85, e_40_86, e_40_87, e_40_90, e_40_91, e_40_94, e_40_95, e_40_98, e_40_101, e_40_102, e_40_105, e_40_106, e_40_109, i_lit, i_add, i_mul, i_m1, i_lt, i_le, i_eq, i_cl, i_in, i_ltN, i_Nlt, i_leN, i_Nle, i_eN, i_Ne, i_inN, i_l1, i_l2, mj_cpok, mj_nn, reduceCtorEq, lg_self, Nat.not_lt_zero, Nat.zero_le, Nat.reduceEqDiff, Nat.reduceLT, Nat.reduceLeDiff, true_or, or_true, false_or, or_false, not_true_eq_false, not_false_eq_true, true_imp_iff, false_imp_iff, and_self, wrd, u2, and_true, true_and, and_false, false_and, and_self, ite_true, ite_false, reduceIte, mK_v]
    (repeat' (first | (with_reducible refine And.intro ?_ ?_) | (with_reducible intro _)))
    all_goals first | omega | exact n41
  · rw [if_neg c] at K0 K1
    have nn := fin W i hi Fr_refl hc.1 hc.2.1 (fun h => by
      rw [if_pos h] at K0
      exact K0 _ i rfl hi (Fr_sFI Fr_refl (by omega))) (fun h => by
      rw [if_neg h] at K1
      refine K1 W tp i tp fo lt f l e false (Int32.ofNat 0) (Int32.ofNat 0) true rfl Fr_refl ⟨h325, hc.2.2.2.1, h327, h328, h330, h332, h329, fun q => (by cases q), hc.2.2.2.2.1, hc.2.2.2.2.2⟩)
    rw [e_40_76]
    simp (disch := omega) only [e_40_77, i_lit, i_add, i_mul, i_m1, i_lt, i_le, i_eq, i_cl, i_in, i_ltN, i_Nlt, i_leN, i_Nle, i_eN, i_Ne, i_inN, i_l1, i_l2, mj_cpok, mj_nn, reduceCtorEq, lg_self, Nat.not_lt_zero, Nat.zero_le, Nat.reduceEqDiff, Nat.reduceLT, Nat.reduceLeDiff, true_or, or_true, false_or, or_false, not_true_eq_false, not_false_eq_true, true_imp_iff, false_imp_iff, and_self, wrd, u2, and_true, true_and, and_false, false_and, and_self, ite_true, ite_false, reduceIte]
    refine c_52 G hS hs hc.1 hc.2.1 hi ?_
    by_cases c9 : S i = 256
    · rw [c9, sgI_e]
      simp (disch := omega) only [e_40_80, e_40_82, i_lit, i_add, i_mul, i_m1, i_lt, i_le, i_eq, i_cl, i_in, i_ltN, i_Nlt, i_leN, i_Nle, i_eN, i_Ne, i_inN, i_l1, i_l2, mj_cpok, mj_nn, reduceCtorEq, lg_self, Nat.not_lt_zero, Nat.zero_le, Nat.reduceEqDiff, Nat.reduceLT, Nat.reduceLeDiff, true_or, or_true, false_or, or_false, not_true_eq_false, not_false_eq_true, true_imp_iff, false_imp_iff, and_self, wrd, u2, and_true, true_and, and_false, false_and, and_self, ite_true, ite_false, reduceIte, mK_v]
      (repeat' (first | (with_reducible refine And.intro ?_ ?_) | (with_reducible intro _)))
      all_goals first | omega | exact nn
    · rw [sgI_n c9]
      simp (disch := omega) only [e_40_80, e_40_82, i_lit, i_add, i_mul, i_m1, i_lt, i_le, i_eq, i_cl, i_in, i_ltN, i_Nlt, i_leN, i_Nle, i_eN, i_Ne, i_inN, i_l1, i_l2, mj_cpok, mj_nn, reduceCtorEq, lg_self, Nat.not_lt_zero, Nat.zero_le, Nat.reduceEqDiff, Nat.reduceLT, Nat.reduceLeDiff, true_or, or_true, false_or, or_false, not_true_eq_false, not_false_eq_true, true_imp_iff, false_imp_iff, and_self, wrd, u2, and_true, true_and, and_false, false_and, and_self, ite_true, ite_false, reduceIte, mK_v]
      (repeat' (first | (with_reducible refine And.intro ?_ ?_) | (with_reducible intro _)))
      all_goals first | omega | exact nn
theorem c_40 {n : Nat} {B : Nat → Nat} (hr : r < 12) (G : Gr W) (hn : n ≤ 1000) (h1 : wFI W 449 2 = Int32.ofNat n) (hB : ∀ i, i < n → B i < 256 ∧ wAI W 3 i = Int32.ofNat (B i)) (h325 : wFI W 325 (6 + 3 * r) = Int32.ofNat 0) (h326 : wFI W 326 (6 + 3 * r) = Int32.ofNat 0)
    (h7 : ∀ p, p < 30 → wAI W (7 + 3 * r) p = Int32.ofNat 0) (h8 : ∀ l, l < 8 → wAI W (8 + 3 * r) l = Int32.ofNat 0)
    (K0 : ∀ U e, patP n (sgn n B) = .inl e → e ≤ 40 → Fr (cG r) (cB r) 0 0 W U → Q (.inl (some (vI (Int32.ofNat e)))) U)
    (K1 : ∀ U tp i np fo lt f l e hl f2 l2 e2, patP n (sgn n B) = .inr (tp, (i, np, fo, lt, f, l, e), hl, f2, l2, e2) → Fr (cG r) (cB r) 0 0 W U → clW U r tp np fo lt f l e hl f2 l2 e2 → Q (.inl (some (vI NN))) U) :
    mR (d + 39) W 40 0 [some (vR (some (4, 0, 42))), some (vR (some (7, 0, 2))), some (vR (some (5, 0, 6 + 3 * r))), none] [] Q := by
  have hS : sgOk (sgn n B) := sgn_ok (fun i hi => (hB i hi).1)
  have nn := c_40l (d := d + 38) (W := W) (ru := some (5, 0, 6 + 3 * r)) (Q := Q) G hn h1 hB (fun V hV hsV => ?_) 40 0 W rfl Fr_refl (fun i hi => absurd hi (Nat.not_lt_zero i))
  · simp (disch := omega) only [e_40_0, e_40_1, i_lit, i_add, i_mul, i_m1, i_lt, i_le, i_eq, i_cl, i_in, i_ltN, i_Nlt, i_leN, i_Nle, i_eN, i_Ne, i_inN, i_l1, i_l2, mj_cpok, mj_nn, reduceCtorEq, lg_self, Nat.not_lt_zero, Nat.zero_le, Nat.reduceEqDiff, Nat.reduceLT, Nat.reduceLeDiff, true_or, or_true, false_or, or_false, not_true_eq_false, not_false_eq_true, true_imp_iff, false_imp_iff, and_self, wrd, u2, and_true, true_and, and_false, false_and, and_self, ite_true, ite_false, reduceIte]
    exact nn
  · have F1 : Fr (fun k a => a = 42 ∧ 260 ≤ k ∧ k ≤ 262) (fun a => a = 43) 0 0 W (sFI (sFI (sFI V 260 42 (Int32.ofNat 0)) 261 42 (Int32.ofNat 0)) 262 42 NN) := Fr_sFI (Fr_sFI (Fr_sFI (Fr_weak hV (fun _ _ q => q.elim) (fun _ q => q) (Nat.le_refl _) (Nat.le_refl _)) (by omega)) (by omega)) (by omega)
    have hs1 : clS (sgn n B) (sFI (sFI (sFI V 260 42 (Int32.ofNat 0)) 261 42 (Int32.ofNat 0)) 262 42 NN) := hsV
    have g2 : wFI (sFI (sFI (sFI V 260 42 (Int32.ofNat 0)) 261 42 (Int32.ofNat 0)) 262 42 NN) 262 42 = NN := by simp only [mj_cpok, mj_nn, reduceCtorEq, lg_self, Nat.not_lt_zero, Nat.zero_le, Nat.reduceEqDiff, Nat.reduceLT, Nat.reduceLeDiff, true_or, or_true, false_or, or_false, not_true_eq_false, not_false_eq_true, true_imp_iff, false_imp_iff, and_self, wrd, u2, and_true, true_and, and_false, false_and, and_self, ite_true, ite_false, reduceIte]
    have g1 : wFI (sFI (sFI (sFI V 260 42 (Int32.ofNat 0)) 261 42 (Int32.ofNat 0)) 262 42 NN) 261 42 = Int32.ofNat 0 := by simp only [mj_cpok, mj_nn, reduceCtorEq, lg_self, Nat.not_lt_zero, Nat.zero_le, Nat.reduceEqDiff, Nat.reduceLT, Nat.reduceLeDiff, true_or, or_true, false_or, or_false, not_true_eq_false, not_false_eq_true, true_imp_iff, false_imp_iff, and_self, wrd, u2, and_true, true_and, and_false, false_and, and_self, ite_true, ite_false, reduceIte]
    have g0 : wFI (sFI (sFI (sFI V 260 42 (Int32.ofNat 0)) 261 42 (Int32.ofNat 0)) 262 42 NN) 260 42 = Int32.ofNat 0 := by simp only [mj_cpok, mj_nn, reduceCtorEq, lg_self, Nat.not_lt_zero, Nat.zero_le, Nat.reduceEqDiff, Nat.reduceLT, Nat.reduceLeDiff, true_or, or_true, false_or, or_false, not_true_eq_false, not_false_eq_true, true_imp_iff, false_imp_iff, and_self, wrd, u2, and_true, true_and, and_false, false_and, and_self, ite_true, ite_false, reduceIte]
    have GV := Fr_Gr hV G
    simp (disch := omega) only [e_40_25, e_40_26, e_40_27, e_40_30, e_40_31, e_40_32, e_40_35, e_40_36, e_40_37, e_40_40, e_40_41, e_40_42, e_40_43, i_lit, i_add, i_mul, i_m1, i_lt, i_le, i_eq, i_cl, i_in, i_ltN, i_Nlt, i_leN, i_Nle, i_eN, i_Ne, i_inN, i_l1, i_l2, mj_cpok, mj_nn, reduceCtorEq, lg_self, Nat.not_lt_zero, Nat.zero_le, Nat.reduceEqDiff, Nat.reduceLT, Nat.reduceLeDiff, true_or, or_true, false_or, or_false, not_true_eq_false, not_false_eq_true, true_imp_iff, false_imp_iff, and_self, wrd, u2, and_true, true_and, and_false, false_and, and_self, ite_true, ite_false, reduceIte]
    generalize sFI (sFI (sFI V 260 42 (Int32.ofNat 0)) 261 42 (Int32.ofNat 0)) 262 42 NN = W1 at F1 hs1 g2 g1 g0 ⊢
    have G1 := Fr_Gr F1 G
    have hG := c_G hS hr 6 (d + 1) 0 rfl
    rw [show d + 1 + 5 * 6 + 7 = d + 38 by omega] at hG
    have hc1 : clR W1 r 0 0 0 (fun _ => Int32.ofNat 0) (fun _ => Int32.ofNat 0) := ⟨g2, g1, g0, (Fr_fi F1 (by omega) (by omega)).trans h326, fun p hp => by rw [Fr_ai F1 (by omega) (by omega)]; exact h7 p hp, fun l q hl hq => by
      rw [Fr_ai F1 (by omega) (by omega), h8 l hl, bt_0]; rfl⟩
    have F1' : Fr (cG r) (cB r) 0 0 W W1 := Fr_weak F1 (fun _ _ q => by omega) (fun _ q => by omega) (Nat.le_refl _) (Nat.le_refl _)
    have hok := eitG_ok hS 6 0 0 (fun _ => Int32.ofNat 0) (fun _ => Int32.ofNat 0) (by decide) (by decide) (fun _ _ => rfl)
    refine hG W1 0 0 0 _ _ _ G1 hs1 hc1 (Nat.le_refl _) (by decide) (by decide) (fun _ _ => rfl) ?_
    cases hx : eitG (sgn n B) 6 0 0 (fun _ => Int32.ofNat 0) (fun _ => Int32.ofNat 0) with
    | inl er =>
      rw [hx] at hok
      have he : er ≤ 40 := hok
      intro U hU u2 ud
      obtain ⟨t', -, ht, h260, hb, -⟩ := ud
      have FU : Fr (cG r) (cB r) 0 0 W U := Fr_trans (x := 0) (y := 0) F1' (cFG hU)
      have GU := Fr_Gr FU G
      have eP : patP n (sgn n B) = .inl er := by unfold patP; rw [hx]
      have tail : ∀ U2, Fr (cG r) (cB r) 0 0 W U2 → wFI U2 262 42 = Int32.ofNat er → mR (d + 39) U2 40 76 [some (vR (some (4, 0, 42))), some (vR (some (7, 0, 2))), some (vR (some (5, 0, 6 + 3 * r))), some (vI (Int32.ofNat 40))] [] Q := by
        intro U2 hU2 y2
        have k0 := K0 U2 er eP he hU2
        have a449 : wFI U2 449 2 = Int32.ofNat n := (Fr_fi hU2 (by decide) (by omega)).trans h1
        have h51 : mR (d + 38) U2 51 0 [some (vR (some (4, 0, 42)))] [] (mK (d + 39) 40 102 105 [some (vR (some (4, 0, 42))), some (vR (some (7, 0, 2))), some (vR (some (5, 0, 6 + 3 * r))), some (vI (Int32.ofNat 40))] [] Q) := by
          refine c_51d he y2 ?_
          simp (disch := omega) only [e_40_0, e_40_1, e_40_3, e_40_5, e_40_8, e_40_9, e_40_12, e_40_13, e_40_14, e_40_15, e_40_18, e_40_19, e_40_22, e_40_25, e_40_26, e_40_27, e_40_30, e_40_31, e_40_32, e_40_35, e_40_36, e_40_37, e_40_40, e_40_41, e_40_42, e_40_43, e_40_46, e_40_47, e_40_50, e_40_51, e_40_54, e_40_55, e_40_56, e_40_59, e_40_60, e_40_61, e_40_62, e_40_65, e_40_66, e_40_67, e_40_68, e_40_71, e_40_72, e_40_73, e_40_76, e_40_77, e_40_80, e_40_82, e_40_85, e_40_86, e_40_87, e_40_90, e_40_91, e_40_94, e_40_95, e_40_98, e_40_101, e_40_102, e_40_105, e_40_106, e_40_109, i_lit, i_add, i_mul, i_m1, i_lt, i_le, i_eq, i_cl, i_in, i_ltN, i_Nlt, i_leN, i_Nle, i_eN, i_Ne, i_inN, i_l1, i_l2, mj_cpok, mj_nn, reduceCtorEq, lg_self, Nat.not_lt_zero, Nat.zero_le, Nat.reduceEqDiff, Nat.reduceLT, Nat.reduceLeDiff, true_or, or_true, false_or, or_false, not_true_eq_false, not_false_eq_true, true_imp_iff, false_imp_iff, and_self, wrd, u2, and_true, true_and, and_false, false_and, and_self, ite_true, ite_false, reduceIte, mK_n, y2]
          exact k0
        rw [e_40_76]
        simp (disch := omega) only [e_40_77, i_lit, i_add, i_mul, i_m1, i_lt, i_le, i_eq, i_cl, i_in, i_ltN, i_Nlt, i_leN, i_Nle, i_eN, i_Ne, i_inN, i_l1, i_l2, mj_cpok, mj_nn, reduceCtorEq, lg_self, Nat.not_lt_zero, Nat.zero_le, Nat.reduceEqDiff, Nat.reduceLT, Nat.reduceLeDiff, true_or, or_true, false_or, or_false, not_true_eq_false, not_false_eq_true, true_imp_iff, false_imp_iff, and_self, wrd, u2, and_true, true_and, and_false, false_and, and_self, ite_true, ite_false, reduceIte]
        refine c_52d he y2 ?_
        simp (disch := omega) only [e_40_0, e_40_1, e_40_3, e_40_5, e_40_8, e_40_9, e_40_12, e_40_13, e_40_14, e_40_15, e_40_18, e_40_19, e_40_22, e_40_25, e_40_26, e_40_27, e_40_30, e_40_31, e_40_32, e_40_35, e_40_36, e_40_37, e_40_40, e_40_41, e_40_42, e_40_43, e_40_46, e_40_47, e_40_50, e_40_51, e_40_54, e_40_55, e_40_56, e_40_59, e_40_60, e_40_61, e_40_62, e_40_65, e_40_66, e_40_67, e_40_68, e_40_71, e_40_72, e_40_73, e_40_76, e_40_77, e_40_80, e_40_82, e_40_85, e_40_86, e_40_87, e_40_90, e_40_91, e_40_94, e_40_95, e_40_98, e_40_101, e_40_102, e_40_105, e_40_106, e_40_109, i_lit, i_add, i_mul, i_m1, i_lt, i_le, i_eq, i_cl, i_in, i_ltN, i_Nlt, i_leN, i_Nle, i_eN, i_Ne, i_inN, i_l1, i_l2, mj_cpok, mj_nn, reduceCtorEq, lg_self, Nat.not_lt_zero, Nat.zero_le, Nat.reduceEqDiff, Nat.reduceLT, Nat.reduceLeDiff, true_or, or_true, false_or, or_false, not_true_eq_false, not_false_eq_true, true_imp_iff, false_imp_iff, and_self, wrd, u2, and_true, true_and, and_false, false_and, and_self, ite_true, ite_false, reduceIte, mK_v, a449, y2]
        (repeat' (first | (with_reducible refine And.intro ?_ ?_) | (with_reducible intro _)))
        all_goals first | omega | exact k0 | exact h51
      have t0 := tail U FU u2
      have t1 := fun x y z (hz : b01 z) => c_63 (d := d + 38) (W := U) (r := r) (f := x) (l := y) (x := z) (Q := mK (d + 39) 40 73 76 [some (vR (some (4, 0, 42))), some (vR (some (7, 0, 2))), some (vR (some (5, 0, 6 + 3 * r))), some (vI (Int32.ofNat 40))] [] Q) hz (fun U2 hU2 _ _ _ _ _ => by
        rw [mK_n]
        exact tail U2 (Fr_trans (x := 0) (y := 0) FU (Fr_weak hU2 (fun _ _ q => by omega) (fun _ q => q.elim) (Nat.le_refl _) (Nat.le_refl _))) ((Fr_fi hU2 (by decide) (by omega)).trans u2))
      simp (disch := omega) only [e_40_46, e_40_47, e_40_50, e_40_51, e_40_54, e_40_55, e_40_56, e_40_59, e_40_60, e_40_61, e_40_62, e_40_65, e_40_66, e_40_67, e_40_68, e_40_71, e_40_72, e_40_73, i_lit, i_add, i_mul, i_m1, i_lt, i_le, i_eq, i_cl, i_in, i_ltN, i_Nlt, i_leN, i_Nle, i_eN, i_Ne, i_inN, i_l1, i_l2, mj_cpok, mj_nn, reduceCtorEq, lg_self, Nat.not_lt_zero, Nat.zero_le, Nat.reduceEqDiff, Nat.reduceLT, Nat.reduceLeDiff, true_or, or_true, false_or, or_false, not_true_eq_false, not_false_eq_true, true_imp_iff, false_imp_iff, and_self, wrd, u2, and_true, true_and, and_false, false_and, and_self, ite_true, ite_false, reduceIte, mK_n, h260, g_257 GU, g_258 GU, g_259 GU]
      (repeat' (first | (with_reducible refine And.intro ?_ ?_) | (with_reducible intro _)))
      all_goals first | omega | exact t0 | exact t1 _ _ _ (hb 0 (Nat.le_refl _) (by omega))
    | inr y =>
      obtain ⟨i1, tp, fo1, lt1, f, l, e⟩ := y
      rw [hx] at hok
      intro U hU hc u44 u45 u46 uj
      have FU0 : Fr (fun k a => (a = 42 ∧ 260 ≤ k ∧ k ≤ 262) ∨ (a = 6 + 3 * r ∧ k = 326)) (fun a => a = 43 ∨ cA r a) 0 0 W U := Fr_trans (x := 0) (y := 0) (Fr_weak F1 (fun _ _ q => by omega) (fun _ q => by omega) (Nat.le_refl _) (Nat.le_refl _)) (Fr_weak hU (fun _ _ q => by omega) (fun _ q => Or.inr q) (Nat.le_refl _) (Nat.le_refl _))
      have FU : Fr (cG r) (cB r) 0 0 W U := Fr_weak FU0 (fun _ _ q => by omega) (fun _ q => by omega) (Nat.le_refl _) (Nat.le_refl _)
      have GU := Fr_Gr FU G
      have hsU := clS_Fr hr hU hs1
      have n63 : mR (d + 38) U 63 0 [some (vR (some (5, 0, 6 + 3 * r))), some (vI f), some (vI l), some (vI (b2 e))] [] (mK (d + 39) 40 73 76 [some (vR (some (4, 0, 42))), some (vR (some (7, 0, 2))), some (vR (some (5, 0, 6 + 3 * r))), some (vI (Int32.ofNat 40))] [] Q) := by
        refine c_63 (b2_01 e) (fun V hV x7 x8 x0 x9 x2 => ?_)
        rw [mK_n]
        have FV : Fr (cG r) (cB r) 0 0 W V := Fr_trans (x := 0) (y := 0) FU (Fr_weak hV (fun _ _ q => by omega) (fun _ q => q.elim) (Nat.le_refl _) (Nat.le_refl _))
        obtain ⟨y262, y261, y260, y326, y7, y8⟩ := hc
        refine c_40e (n := n) (i := i1) (tp := tp) (t := 1) (S := sgn n B) (fo := fo1) (lt := lt1) (f := f) (l := l) (e := e) hn hS hr (Fr_Gr FV G) (fun j hj => by rw [Fr_ai hV (by decide) (fun q => q)]; exact hsU j hj) ⟨(Fr_fi hV (by decide) (by omega)).trans y262, (Fr_fi hV (by decide) (by omega)).trans y261, (Fr_fi hV (by decide) (by omega)).trans y260, (Fr_fi hV (by omega) (by omega)).trans y326, by rw [Fr_ai hV (by omega) (fun q => q)]; exact y7, by rw [Fr_ai hV (by omega) (fun q => q)]; exact y8⟩ hok.2.1 hok.2.2.2.1 hok.2.2.2.2.2.2.1 ((Fr_fi FV (by decide) (by omega)).trans h1)
          ((Fr_fi hV (by omega) (by omega)).trans ((Fr_fi FU0 (by omega) (by omega)).trans h325)) (x7 tp y326) x8 x0 x9 x2 hx (fun U2 er q1 q2 q3 => K0 U2 er q1 q2 (Fr_trans (x := 0) (y := 0) FV q3)) (fun U2 tp i np fo lt f l e hl f2 l2 e2 q1 q2 q3 => K1 U2 tp i np fo lt f l e hl f2 l2 e2 q1 (Fr_trans (x := 0) (y := 0) FV q2) q3)
      obtain ⟨y262, y261, y260, y326, y7, y8⟩ := hc
      simp (disch := omega) only [e_40_46, e_40_47, e_40_50, e_40_51, e_40_54, e_40_55, e_40_56, e_40_59, e_40_60, e_40_61, e_40_62, e_40_65, e_40_66, e_40_67, e_40_68, e_40_71, e_40_72, e_40_73, i_lit, i_add, i_mul, i_m1, i_lt, i_le, i_eq, i_cl, i_in, i_ltN, i_Nlt, i_leN, i_Nle, i_eN, i_Ne, i_inN, i_l1, i_l2, mj_cpok, mj_nn, reduceCtorEq, lg_self, Nat.not_lt_zero, Nat.zero_le, Nat.reduceEqDiff, Nat.reduceLT, Nat.reduceLeDiff, true_or, or_true, false_or, or_false, not_true_eq_false, not_false_eq_true, true_imp_iff, false_imp_iff, and_self, wrd, u2, and_true, true_and, and_false, false_and, and_self, ite_true, ite_false, reduceIte, mK_n, y260, g_257 GU, g_258 GU, g_259 GU, u44, u45, u46]
      (repeat' (first | (with_reducible refine And.intro ?_ ?_) | (with_reducible intro _)))
      all_goals first | omega | exact n63
end CL
