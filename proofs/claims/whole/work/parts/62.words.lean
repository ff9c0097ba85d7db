/-! Questions to a machine: words. -/
def setJ (w : MWd) (J : Nat → Nat → Int64) : MWd := (w.1, w.2.1, (wAI w, J, wAR w))
theorem srj : (∀ (w : MWd) (J : Nat → Nat → Int64), wN (setJ w J) = wN w) ∧ (∀ (w : MWd) (J : Nat → Nat → Int64), wC (setJ w J) = wC w) ∧ (∀ (w : MWd) (J : Nat → Nat → Int64), wS (setJ w J) = wS w) ∧
  (∀ (w : MWd) (J : Nat → Nat → Int64), wFI (setJ w J) = wFI w) ∧ (∀ (w : MWd) (J : Nat → Nat → Int64), wFR (setJ w J) = wFR w) ∧ (∀ (w : MWd) (J : Nat → Nat → Int64), wAI (setJ w J) = wAI w) ∧
  (∀ (w : MWd) (J : Nat → Nat → Int64), wAJ (setJ w J) = J) ∧ (∀ (w : MWd) (J : Nat → Nat → Int64), wAR (setJ w J) = wAR w) ∧
  (∀ (w : MWd) (J : Nat → Nat → Int64) (a j : Nat) (v : Int64), sAJ (setJ w J) a j v = setJ w (u2 J a j v)) ∧
  (∀ (w : MWd) (J : Nat → Nat → Int64) (a b c d n : Nat), cpJ (setJ w J) a b c d n = setJ w (fun x j => if x = c ∧ d ≤ j ∧ j < d + n then J a (b + (j - d)) else J x j)) :=
  ⟨fun _ _ => rfl, fun _ _ => rfl, fun _ _ => rfl, fun _ _ => rfl, fun _ _ => rfl, fun _ _ => rfl, fun _ _ => rfl, fun _ _ => rfl, fun _ _ _ _ _ => rfl, fun _ _ _ _ _ _ _ => rfl⟩
theorem setJ_self (w : MWd) : setJ w (wAJ w) = w := rfl
theorem setJ_Gr {w : MWd} {J : Nat → Nat → Int64} (G : Gr w) : Gr (setJ w J) := G
theorem setJ_Fr {F : Nat → Nat → Prop} {R : Nat → Prop} {x y : Nat} {w : MWd} {J : Nat → Nat → Int64} (h : R 166 ∨ J 166 = wAJ w 166) : Fr F R x y w (setJ w J) :=
  ⟨Nat.le_refl _, Nat.le_add_right _ _, Nat.le_add_right _ _, fun _ _ _ => rfl, fun _ _ _ => rfl, fun _ _ _ _ => rfl, fun _ _ _ => rfl, fun n => h.elim (fun q => absurd q n) id⟩
theorem u2_row {α : Type} {J : Nat → Nat → α} {a b j : Nat} {v : α} (h : a ≠ b) : u2 J b j v a = J a := by
  funext i
  exact if_neg (fun q => h q.1)
theorem u2_at {α : Type} {J : Nat → Nat → α} {b j i : Nat} {v : α} : u2 J b j v b i = if i = j then v else J b i := by
  unfold u2
  by_cases h : i = j
  · rw [if_pos ⟨rfl, h⟩, if_pos h]
  · rw [if_neg (fun q => h q.2), if_neg h]
section WO
variable {d c m n : Nat} {w : MWd} {mv an : Nat → Option Nat} {Q : MRes → MWd → Prop}
theorem l_22_39 (hgs : grS w c) (hm : m < 4) (hA : ClsA w c m n mv an) (hmv : ∀ t a, t < 8 * n → mv t = some a → a < n) (hc : c = 60 ∨ c = 94) (J0 : Nat → Nat → Int64)
    (K : ∀ J, (∀ a, a ≠ c + 8 + 8 * m → a ≠ c + 9 + 8 * m → J a = J0 a) → (∀ t, t < 100 → J (c + 8 + 8 * m) t = sumN (fun x => if mv x = some t then J0 (c + 8 + 8 * m) (x / 8) else 0) (8 * n)) → Q (.inl none) (setJ w J)) :
    ∀ (f s l : Nat) (J : Nat → Nat → Int64) (l3 : Option MV), 8 * s + l + f = 8 * n → l < 8 → s < n → (∀ a, a ≠ c + 9 + 8 * m → J a = J0 a) → (∀ t, t < 100 → J (c + 9 + 8 * m) t = sumN (fun x => if mv x = some t then J0 (c + 8 + 8 * m) (x / 8) else 0) (8 * s + l)) →
      mR (d + 2) (setJ w J) 22 39 [some (vR (some (1, 0, c + 2 + 8 * m))), some (vI (Int32.ofNat s)), some (vI (Int32.ofNat l)), l3] [] Q
  | 0, s, l, J, l3, hf, hl, hs, h1, h2 => by omega
  | f + 1, s, l, J, l3, hf, hl, hs, h1, h2 => by
    have hn := hA.1
    have e1 := hA.2.2.2 s l hs hl
    have ih := l_22_39 hgs hm hA hmv hc J0 K f
    have hnext : ∀ (J' : Nat → Nat → Int64) (l3' : Option MV), (∀ a, a ≠ c + 9 + 8 * m → J' a = J0 a) → (∀ t, t < 100 → J' (c + 9 + 8 * m) t = sumN (fun x => if mv x = some t then J0 (c + 8 + 8 * m) (x / 8) else 0) (8 * s + l + 1)) →
        mR (d + 2) (setJ w J') 22 39 [some (vR (some (1, 0, c + 2 + 8 * m))), some (vI (Int32.ofNat s)), some (vI (Int32.ofNat (l + 1))), l3'] [] Q := by
      intro J' l3' g1 g2
      by_cases hl8 : l + 1 < 8
      · exact ih s (l + 1) J' l3' (by omega) hl8 hs g1 g2
      · have hl7 : l = 7 := by omega
        subst hl7
        rw [e_22_39]
        simp (disch := omega) only [e_22_0, e_22_1, e_22_3, e_22_5, e_22_8, e_22_9, e_22_12, e_22_13, e_22_14, e_22_15, e_22_18, e_22_21, e_22_22, e_22_24, e_22_25, e_22_28, e_22_31, e_22_32, e_22_34, e_22_37, e_22_38, e_22_40, e_22_42, e_22_45, e_22_46, e_22_47, e_22_48, e_22_51, e_22_52, e_22_53, e_22_54, e_22_57, e_22_60, e_22_61, e_22_64, e_22_65, e_22_66, e_22_67, e_22_68, e_22_71, e_22_72, e_22_73, e_22_74, e_22_75, e_22_78, e_22_81, e_22_84, e_22_87, e_22_88, e_22_91, e_22_92, e_22_93, e_22_96, e_22_97, e_22_99, e_22_99J, e_22_102, i_lit, i_add, i_mul, i_m1, i_lt, i_le, i_eq, i_cl, i_in, i_ltN, i_Nlt, i_leN, i_Nle, i_eN, i_Ne, i_inN, i_l1, i_l2, mj_cpok, mj_nn, reduceCtorEq, lg_self, Nat.not_lt_zero, Nat.zero_le, Nat.reduceEqDiff, Nat.reduceLT, Nat.reduceLeDiff, true_or, or_true, false_or, or_false, not_true_eq_false, not_false_eq_true, true_imp_iff, false_imp_iff, and_self, wrd, u2, and_true, true_and, and_false, false_and, and_self, ite_true, ite_false, reduceIte]
        (repeat' (first | (with_reducible refine And.intro ?_ ?_) | (with_reducible intro _)))
        all_goals try omega
        rw [e_22_23]
        simp (disch := omega) only [e_22_0, e_22_1, e_22_3, e_22_5, e_22_8, e_22_9, e_22_12, e_22_13, e_22_14, e_22_15, e_22_18, e_22_21, e_22_22, e_22_24, e_22_25, e_22_28, e_22_31, e_22_32, e_22_34, e_22_37, e_22_38, e_22_40, e_22_42, e_22_45, e_22_46, e_22_47, e_22_48, e_22_51, e_22_52, e_22_53, e_22_54, e_22_57, e_22_60, e_22_61, e_22_64, e_22_65, e_22_66, e_22_67, e_22_68, e_22_71, e_22_72, e_22_73, e_22_74, e_22_75, e_22_78, e_22_81, e_22_84, e_22_87, e_22_88, e_22_91, e_22_92, e_22_93, e_22_96, e_22_97, e_22_99, e_22_99J, e_22_102, i_lit, i_add, i_mul, i_m1, i_lt, i_le, i_eq, i_cl, i_in, i_ltN, i_Nlt, i_leN, i_Nle, i_eN, i_Ne, i_inN, i_l1, i_l2, mj_cpok, mj_nn, reduceCtorEq, lg_self, Nat.not_lt_zero, Nat.zero_le, Nat.reduceEqDiff, Nat.reduceLT, Nat.reduceLeDiff, true_or, or_true, false_or, or_false, not_true_eq_false, not_false_eq_true, true_imp_iff, false_imp_iff, and_self, wrd, u2, and_true, true_and, and_false, false_and, and_self, ite_true, ite_false, reduceIte, srj, hA.2.1, gs_69 hgs hm, gs_70 hgs hm]
        (repeat' (first | (with_reducible refine And.intro ?_ ?_) | (with_reducible intro _)))
        all_goals try omega
        · refine K _ (fun a ha hb => ?_) (fun t ht => ?_)
          · rw [← g1 a hb]
            funext j
            rw [if_neg (fun q => ha q.1)]
          · rw [if_pos ⟨rfl, by omega⟩, g2 _ (by omega), show 8 * s + 7 + 1 = 8 * n by omega]
            rw [show 0 + (t - 0) = t by omega]
        · exact ih (s + 1) 0 J' _ (by omega) (by omega) (by omega) g1 (fun t ht => by rw [g2 t ht]; rfl)
    rw [e_22_39]
    cases hv : mv (8 * s + l) with
    | none =>
      rw [hv] at e1
      replace e1 : wAI w (c + 3 + 8 * m) (s * 8 + l) = NN := by rw [Nat.mul_comm s 8]; exact e1
      simp (disch := omega) only [e_22_0, e_22_1, e_22_3, e_22_5, e_22_8, e_22_9, e_22_12, e_22_13, e_22_14, e_22_15, e_22_18, e_22_21, e_22_22, e_22_24, e_22_25, e_22_28, e_22_31, e_22_32, e_22_34, e_22_37, e_22_38, e_22_40, e_22_42, e_22_45, e_22_46, e_22_47, e_22_48, e_22_51, e_22_52, e_22_53, e_22_54, e_22_57, e_22_60, e_22_61, e_22_64, e_22_65, e_22_66, e_22_67, e_22_68, e_22_71, e_22_72, e_22_73, e_22_74, e_22_75, e_22_78, e_22_81, e_22_84, e_22_87, e_22_88, e_22_91, e_22_92, e_22_93, e_22_96, e_22_97, e_22_99, e_22_99J, e_22_102, e_17_0, e_17_1, e_17_2, e_17_5, e_17_8, e_17_9, e_17_12, e_17_13, e_17_15, e_17_18, e_17_19, e_17_22, e_17_23, e_17_25, e_17_26, e_17_27, e_17_28, e_17_29, e_17_32, e_17_33, e_16_0, e_16_1, e_16_4, e_16_5, e_16_6, e_16_9, e_16_12, e_16_13, e_16_15, e_16_18, e_16_19, e_16_22, e_16_23, i_lit, i_add, i_mul, i_m1, i_lt, i_le, i_eq, i_cl, i_in, i_ltN, i_Nlt, i_leN, i_Nle, i_eN, i_Ne, i_inN, i_l1, i_l2, mj_cpok, mj_nn, reduceCtorEq, lg_self, Nat.not_lt_zero, Nat.zero_le, Nat.reduceEqDiff, Nat.reduceLT, Nat.reduceLeDiff, true_or, or_true, false_or, or_false, not_true_eq_false, not_false_eq_true, true_imp_iff, false_imp_iff, and_self, wrd, u2, and_true, true_and, and_false, false_and, and_self, ite_true, ite_false, reduceIte, srj, mK_v, hA.2.1, gs_64 hgs hm, e1]
      (repeat' (first | (with_reducible refine And.intro ?_ ?_) | (with_reducible intro _)))
      all_goals try omega
      refine hnext J _ h1 fun t ht => ?_
      show _ = sumN _ (8 * s + l) + (if mv (8 * s + l) = some t then _ else 0)
      rw [h2 t ht, hv, if_neg (by simp)]; grind
    | some a =>
      have ha := hmv _ a (by omega) hv
      rw [hv] at e1
      replace e1 : wAI w (c + 3 + 8 * m) (s * 8 + l) = Int32.ofNat a := by rw [Nat.mul_comm s 8]; exact e1
      simp (disch := omega) only [e_22_0, e_22_1, e_22_3, e_22_5, e_22_8, e_22_9, e_22_12, e_22_13, e_22_14, e_22_15, e_22_18, e_22_21, e_22_22, e_22_24, e_22_25, e_22_28, e_22_31, e_22_32, e_22_34, e_22_37, e_22_38, e_22_40, e_22_42, e_22_45, e_22_46, e_22_47, e_22_48, e_22_51, e_22_52, e_22_53, e_22_54, e_22_57, e_22_60, e_22_61, e_22_64, e_22_65, e_22_66, e_22_67, e_22_68, e_22_71, e_22_72, e_22_73, e_22_74, e_22_75, e_22_78, e_22_81, e_22_84, e_22_87, e_22_88, e_22_91, e_22_92, e_22_93, e_22_96, e_22_97, e_22_99, e_22_99J, e_22_102, e_17_0, e_17_1, e_17_2, e_17_5, e_17_8, e_17_9, e_17_12, e_17_13, e_17_15, e_17_18, e_17_19, e_17_22, e_17_23, e_17_25, e_17_26, e_17_27, e_17_28, e_17_29, e_17_32, e_17_33, e_16_0, e_16_1, e_16_4, e_16_5, e_16_6, e_16_9, e_16_12, e_16_13, e_16_15, e_16_18, e_16_19, e_16_22, e_16_23, i_lit, i_add, i_mul, i_m1, i_lt, i_le, i_eq, i_cl, i_in, i_ltN, i_Nlt, i_leN, i_Nle, i_eN, i_Ne, i_inN, i_l1, i_l2, mj_cpok, mj_nn, reduceCtorEq, lg_self, Nat.not_lt_zero, Nat.zero_le, Nat.reduceEqDiff, Nat.reduceLT, Nat.reduceLeDiff, true_or, or_true, false_or, or_false, not_true_eq_false, not_false_eq_true, true_imp_iff, false_imp_iff, and_self, wrd, u2, and_true, true_and, and_false, false_and, and_self, ite_true, ite_false, reduceIte, srj, mK_v, hA.2.1, gs_64 hgs hm, gs_69 hgs hm, gs_70 hgs hm, e1]
      (repeat' (first | (with_reducible refine And.intro ?_ ?_) | (with_reducible intro _)))
      all_goals try omega
      refine hnext _ _ (fun b hb => ?_) fun t ht => ?_
      · rw [u2_row hb, h1 b hb]
      · show _ = sumN _ (8 * s + l) + (if mv (8 * s + l) = some t then _ else 0)
        rw [hv, u2_at]
        have hd : (8 * s + l) / 8 = s := by omega
        by_cases hta : t = a
        · subst hta
          rw [if_pos rfl, if_pos rfl, h2 t ht, hd, h1 (c + 8 + 8 * m) (by omega)]
        · rw [if_neg hta, if_neg (fun q => hta (Option.some.inj q).symm), h2 t ht]; grind
/-- the class counts one letter more -/
theorem s_22 (hgs : grS w c) (hm : m < 4) (hA : ClsA w c m n mv an) (hmv : ∀ t a, t < 8 * n → mv t = some a → a < n) (hc : c = 60 ∨ c = 94) (J0 : Nat → Nat → Int64)
    (K : ∀ J, (∀ a, a ≠ c + 8 + 8 * m → a ≠ c + 9 + 8 * m → J a = J0 a) → (∀ t, t < 100 → J (c + 8 + 8 * m) t = sumN (fun x => if mv x = some t then J0 (c + 8 + 8 * m) (x / 8) else 0) (8 * n)) → Q (.inl none) (setJ w J)) :
    mR (d + 2) (setJ w J0) 22 0 [some (vR (some (1, 0, c + 2 + 8 * m))), none, none, none] [] Q := by
  have hn := hA.1
  have key : ∀ (k i : Nat) (J : Nat → Nat → Int64), i + k = 100 → (∀ a, a ≠ c + 9 + 8 * m → J a = J0 a) → (∀ t, t < i → J (c + 9 + 8 * m) t = 0) → mR (d + 2) (setJ w J) 22 2 [some (vR (some (1, 0, c + 2 + 8 * m))), some (vI (Int32.ofNat i)), none, none] [] Q := by
    intro k
    induction k with
    | zero =>
      intro i J hi h1 h2
      rw [e_22_2]
      simp (disch := omega) only [e_22_0, e_22_1, e_22_3, e_22_5, e_22_8, e_22_9, e_22_12, e_22_13, e_22_14, e_22_15, e_22_18, e_22_21, e_22_22, e_22_24, e_22_25, e_22_28, e_22_31, e_22_32, e_22_34, e_22_37, e_22_38, e_22_40, e_22_42, e_22_45, e_22_46, e_22_47, e_22_48, e_22_51, e_22_52, e_22_53, e_22_54, e_22_57, e_22_60, e_22_61, e_22_64, e_22_65, e_22_66, e_22_67, e_22_68, e_22_71, e_22_72, e_22_73, e_22_74, e_22_75, e_22_78, e_22_81, e_22_84, e_22_87, e_22_88, e_22_91, e_22_92, e_22_93, e_22_96, e_22_97, e_22_99, e_22_99J, e_22_102, i_lit, i_add, i_mul, i_m1, i_lt, i_le, i_eq, i_cl, i_in, i_ltN, i_Nlt, i_leN, i_Nle, i_eN, i_Ne, i_inN, i_l1, i_l2, mj_cpok, mj_nn, reduceCtorEq, lg_self, Nat.not_lt_zero, Nat.zero_le, Nat.reduceEqDiff, Nat.reduceLT, Nat.reduceLeDiff, true_or, or_true, false_or, or_false, not_true_eq_false, not_false_eq_true, true_imp_iff, false_imp_iff, and_self, wrd, u2, and_true, true_and, and_false, false_and, and_self, ite_true, ite_false, reduceIte]
      (repeat' (first | (with_reducible refine And.intro ?_ ?_) | (with_reducible intro _)))
      all_goals try omega
      rw [e_22_23]
      simp (disch := omega) only [e_22_0, e_22_1, e_22_3, e_22_5, e_22_8, e_22_9, e_22_12, e_22_13, e_22_14, e_22_15, e_22_18, e_22_21, e_22_22, e_22_24, e_22_25, e_22_28, e_22_31, e_22_32, e_22_34, e_22_37, e_22_38, e_22_40, e_22_42, e_22_45, e_22_46, e_22_47, e_22_48, e_22_51, e_22_52, e_22_53, e_22_54, e_22_57, e_22_60, e_22_61, e_22_64, e_22_65, e_22_66, e_22_67, e_22_68, e_22_71, e_22_72, e_22_73, e_22_74, e_22_75, e_22_78, e_22_81, e_22_84, e_22_87, e_22_88, e_22_91, e_22_92, e_22_93, e_22_96, e_22_97, e_22_99, e_22_99J, e_22_102, i_lit, i_add, i_mul, i_m1, i_lt, i_le, i_eq, i_cl, i_in, i_ltN, i_Nlt, i_leN, i_Nle, i_eN, i_Ne, i_inN, i_l1, i_l2, mj_cpok, mj_nn, reduceCtorEq, lg_self, Nat.not_lt_zero, Nat.zero_le, Nat.reduceEqDiff, Nat.reduceLT, Nat.reduceLeDiff, true_or, or_true, false_or, or_false, not_true_eq_false, not_false_eq_true, true_imp_iff, false_imp_iff, and_self, wrd, u2, and_true, true_and, and_false, false_and, and_self, ite_true, ite_false, reduceIte, srj, hA.2.1, gs_69 hgs hm, gs_70 hgs hm]
      (repeat' (first | (with_reducible refine And.intro ?_ ?_) | (with_reducible intro _)))
      all_goals try omega
      · refine K _ (fun a ha hb => ?_) (fun t ht => ?_)
        · rw [← h1 a hb]
          funext j
          rw [if_neg (fun q => ha q.1)]
        · rw [if_pos ⟨rfl, by omega⟩, h2 _ (by omega), show n = 0 by omega]
          rfl
      · exact l_22_39 hgs hm hA hmv hc J0 K (8 * n) 0 0 J _ (by omega) (by omega) (by omega) h1 (fun t ht => by rw [h2 t (by omega)]; rfl)
    | succ k ih =>
      intro i J hi h1 h2
      rw [e_22_2]
      simp (disch := omega) only [e_22_0, e_22_1, e_22_3, e_22_5, e_22_8, e_22_9, e_22_12, e_22_13, e_22_14, e_22_15, e_22_18, e_22_21, e_22_22, e_22_24, e_22_25, e_22_28, e_22_31, e_22_32, e_22_34, e_22_37, e_22_38, e_22_40, e_22_42, e_22_45, e_22_46, e_22_47, e_22_48, e_22_51, e_22_52, e_22_53, e_22_54, e_22_57, e_22_60, e_22_61, e_22_64, e_22_65, e_22_66, e_22_67, e_22_68, e_22_71, e_22_72, e_22_73, e_22_74, e_22_75, e_22_78, e_22_81, e_22_84, e_22_87, e_22_88, e_22_91, e_22_92, e_22_93, e_22_96, e_22_97, e_22_99, e_22_99J, e_22_102, i_lit, i_add, i_mul, i_m1, i_lt, i_le, i_eq, i_cl, i_in, i_ltN, i_Nlt, i_leN, i_Nle, i_eN, i_Ne, i_inN, i_l1, i_l2, mj_cpok, mj_nn, reduceCtorEq, lg_self, Nat.not_lt_zero, Nat.zero_le, Nat.reduceEqDiff, Nat.reduceLT, Nat.reduceLeDiff, true_or, or_true, false_or, or_false, not_true_eq_false, not_false_eq_true, true_imp_iff, false_imp_iff, and_self, wrd, u2, and_true, true_and, and_false, false_and, and_self, ite_true, ite_false, reduceIte, srj, gs_70 hgs hm]
      (repeat' (first | (with_reducible refine And.intro ?_ ?_) | (with_reducible intro _)))
      all_goals try omega
      refine ih (i + 1) _ (by omega) (fun b hb => by rw [u2_row hb, h1 b hb]) (fun t ht => ?_)
      rw [u2_at]
      by_cases hti : t = i
      · rw [if_pos hti]
      · rw [if_neg hti, h2 t (by omega)]
  rw [e_22_0, e_22_1]
  exact key 100 0 J0 (by omega) (fun _ _ => rfl) (fun t ht => absurd ht (Nat.not_lt_zero t))
/-- the words of a length, of the class -/
theorem s_21 {r k : Nat} (hgs : grS w c) (hm : m < 4) (hA : ClsA w c m n mv an) (hmv : ∀ t a, t < 8 * n → mv t = some a → a < n) (hc : c = 60 ∨ c = 94) (hr : r < 12) (hk : k ≤ 18) (hb : ∀ s q, s < n → an s = some q → q < 12)
    (K : ∀ J, (∀ a, a ≠ c + 8 + 8 * m → a ≠ c + 9 + 8 * m → J a = wAJ w a) → Q (.inl (some (vL (sumN (fun s => if an s = some r then fwd mv n k s else 0) n)))) (setJ w J)) :
    mR (d + 3) w 21 0 [some (vR (some (1, 0, c + 2 + 8 * m))), some (vI (Int32.ofNat r)), some (vI (Int32.ofNat k)), none, none, none] [] Q := by
  have hn := hA.1
  have sum : ∀ (f s : Nat) (x : Int64) (J : Nat → Nat → Int64), s + f = n → (∀ a, a ≠ c + 8 + 8 * m → a ≠ c + 9 + 8 * m → J a = wAJ w a) → (∀ t, t < n → J (c + 8 + 8 * m) t = fwd mv n k t) →
      x = sumN (fun s => if an s = some r then fwd mv n k s else 0) s → mR (d + 3) (setJ w J) 21 64 [some (vR (some (1, 0, c + 2 + 8 * m))), some (vI (Int32.ofNat r)), some (vI (Int32.ofNat k)), some (vL x), none, some (vI (Int32.ofNat s))] [] Q := by
    intro f
    induction f with
    | zero =>
      intro s x J hs h1 h2 hx
      have hsn : s = n := by omega
      subst hsn
      rw [e_21_64]
      simp (disch := omega) only [e_21_0, e_21_1, e_21_3, e_21_5, e_21_8, e_21_9, e_21_12, e_21_13, e_21_14, e_21_17, e_21_18, e_21_21, e_21_24, e_21_25, e_21_28, e_21_29, e_21_30, e_21_33, e_21_36, e_21_37, e_21_39, e_21_40, e_21_43, e_21_44, e_21_46, e_21_49, e_21_50, e_21_53, e_21_56, e_21_59, e_21_60, e_21_61, e_21_62, e_21_66, e_21_67, e_21_70, e_21_73, e_21_75, e_21_77, e_21_80, e_21_81, e_21_82, e_21_85, e_21_87, e_21_88, e_21_89, e_21_92, e_21_93, e_21_96, e_21_98, e_21_99, e_21_102, e_21_103, e_21_104, e_21_105, e_21_108, e_21_111, e_21_112, i_lit, i_add, i_mul, i_m1, i_lt, i_le, i_eq, i_cl, i_in, i_ltN, i_Nlt, i_leN, i_Nle, i_eN, i_Ne, i_inN, i_l1, i_l2, mj_cpok, mj_nn, reduceCtorEq, lg_self, Nat.not_lt_zero, Nat.zero_le, Nat.reduceEqDiff, Nat.reduceLT, Nat.reduceLeDiff, true_or, or_true, false_or, or_false, not_true_eq_false, not_false_eq_true, true_imp_iff, false_imp_iff, and_self, wrd, u2, and_true, true_and, and_false, false_and, and_self, ite_true, ite_false, reduceIte, srj, hA.2.1]
      (repeat' (first | (with_reducible refine And.intro ?_ ?_) | (with_reducible intro _)))
      all_goals try omega
      rw [hx]; exact K J h1
    | succ f ih =>
      intro s x J hs h1 h2 hx
      have ha := hA.2.2.1 s (by omega)
      have hae := en_eq (x := an s) (r := r) (by omega) (fun q hq => by have := hb s q (by omega) hq; omega)
      rw [e_21_64]
      simp (disch := omega) only [e_21_0, e_21_1, e_21_3, e_21_5, e_21_8, e_21_9, e_21_12, e_21_13, e_21_14, e_21_17, e_21_18, e_21_21, e_21_24, e_21_25, e_21_28, e_21_29, e_21_30, e_21_33, e_21_36, e_21_37, e_21_39, e_21_40, e_21_43, e_21_44, e_21_46, e_21_49, e_21_50, e_21_53, e_21_56, e_21_59, e_21_60, e_21_61, e_21_62, e_21_66, e_21_67, e_21_70, e_21_73, e_21_75, e_21_77, e_21_80, e_21_81, e_21_82, e_21_85, e_21_87, e_21_88, e_21_89, e_21_92, e_21_93, e_21_96, e_21_98, e_21_99, e_21_102, e_21_103, e_21_104, e_21_105, e_21_108, e_21_111, e_21_112, i_lit, i_add, i_mul, i_m1, i_lt, i_le, i_eq, i_cl, i_in, i_ltN, i_Nlt, i_leN, i_Nle, i_eN, i_Ne, i_inN, i_l1, i_l2, mj_cpok, mj_nn, reduceCtorEq, lg_self, Nat.not_lt_zero, Nat.zero_le, Nat.reduceEqDiff, Nat.reduceLT, Nat.reduceLeDiff, true_or, or_true, false_or, or_false, not_true_eq_false, not_false_eq_true, true_imp_iff, false_imp_iff, and_self, wrd, u2, and_true, true_and, and_false, false_and, and_self, ite_true, ite_false, reduceIte, srj, hA.2.1, gs_65 hgs hm, gs_69 hgs hm, ha]
      (repeat' (first | (with_reducible refine And.intro ?_ ?_) | (with_reducible intro _)))
      all_goals try omega
      · rename_i hne
        refine ih (s + 1) _ J (by omega) h1 h2 ?_
        show _ = sumN _ s + (if an s = some r then _ else 0)
        rw [if_neg (fun q => hne (hae.mpr q)), hx]
      · rename_i hne
        refine ih (s + 1) _ J (by omega) h1 h2 ?_
        show _ = sumN _ s + (if an s = some r then _ else 0)
        rw [if_pos (hae.mp hne), hx, h2 s (by omega)]
  have len : ∀ (f i : Nat) (J : Nat → Nat → Int64) (l4 l5 : Option MV), i + f = k → (∀ a, a ≠ c + 8 + 8 * m → a ≠ c + 9 + 8 * m → J a = wAJ w a) → (0 < n → ∀ t, t < 100 → J (c + 8 + 8 * m) t = fwd mv n i t) →
      mR (d + 3) (setJ w J) 21 38 [some (vR (some (1, 0, c + 2 + 8 * m))), some (vI (Int32.ofNat r)), some (vI (Int32.ofNat k)), some (vI (Int32.ofNat i)), none, none] [] Q := by
    intro f
    induction f with
    | zero =>
      intro i J l4 l5 hi h1 h2
      rw [e_21_38]
      simp (disch := omega) only [e_21_0, e_21_1, e_21_3, e_21_5, e_21_8, e_21_9, e_21_12, e_21_13, e_21_14, e_21_17, e_21_18, e_21_21, e_21_24, e_21_25, e_21_28, e_21_29, e_21_30, e_21_33, e_21_36, e_21_37, e_21_39, e_21_40, e_21_43, e_21_44, e_21_46, e_21_49, e_21_50, e_21_53, e_21_56, e_21_59, e_21_60, e_21_61, e_21_62, e_21_66, e_21_67, e_21_70, e_21_73, e_21_75, e_21_77, e_21_80, e_21_81, e_21_82, e_21_85, e_21_87, e_21_88, e_21_89, e_21_92, e_21_93, e_21_96, e_21_98, e_21_99, e_21_102, e_21_103, e_21_104, e_21_105, e_21_108, e_21_111, e_21_112, i_lit, i_add, i_mul, i_m1, i_lt, i_le, i_eq, i_cl, i_in, i_ltN, i_Nlt, i_leN, i_Nle, i_eN, i_Ne, i_inN, i_l1, i_l2, mj_cpok, mj_nn, reduceCtorEq, lg_self, Nat.not_lt_zero, Nat.zero_le, Nat.reduceEqDiff, Nat.reduceLT, Nat.reduceLeDiff, true_or, or_true, false_or, or_false, not_true_eq_false, not_false_eq_true, true_imp_iff, false_imp_iff, and_self, wrd, u2, and_true, true_and, and_false, false_and, and_self, ite_true, ite_false, reduceIte]
      (repeat' (first | (with_reducible refine And.intro ?_ ?_) | (with_reducible intro _)))
      all_goals try omega
      have he : i = k := by omega
      subst he
      all_goals exact sum n 0 0 J (by omega) h1 (fun t ht => h2 (by omega) t (by omega)) rfl
    | succ f ih =>
      intro i J l4 l5 hi h1 h2
      rw [e_21_38]
      simp (disch := omega) only [e_21_0, e_21_1, e_21_3, e_21_5, e_21_8, e_21_9, e_21_12, e_21_13, e_21_14, e_21_17, e_21_18, e_21_21, e_21_24, e_21_25, e_21_28, e_21_29, e_21_30, e_21_33, e_21_36, e_21_37, e_21_39, e_21_40, e_21_43, e_21_44, e_21_46, e_21_49, e_21_50, e_21_53, e_21_56, e_21_59, e_21_60, e_21_61, e_21_62, e_21_66, e_21_67, e_21_70, e_21_73, e_21_75, e_21_77, e_21_80, e_21_81, e_21_82, e_21_85, e_21_87, e_21_88, e_21_89, e_21_92, e_21_93, e_21_96, e_21_98, e_21_99, e_21_102, e_21_103, e_21_104, e_21_105, e_21_108, e_21_111, e_21_112, i_lit, i_add, i_mul, i_m1, i_lt, i_le, i_eq, i_cl, i_in, i_ltN, i_Nlt, i_leN, i_Nle, i_eN, i_Ne, i_inN, i_l1, i_l2, mj_cpok, mj_nn, reduceCtorEq, lg_self, Nat.not_lt_zero, Nat.zero_le, Nat.reduceEqDiff, Nat.reduceLT, Nat.reduceLeDiff, true_or, or_true, false_or, or_false, not_true_eq_false, not_false_eq_true, true_imp_iff, false_imp_iff, and_self, wrd, u2, and_true, true_and, and_false, false_and, and_self, ite_true, ite_false, reduceIte]
      (repeat' (first | (with_reducible refine And.intro ?_ ?_) | (with_reducible intro _)))
      all_goals try omega
      refine s_22 hgs hm hA hmv hc J (fun J' g1 g2 => ?_)
      simp (disch := omega) only [mK_n, e_21_0, e_21_1, e_21_3, e_21_5, e_21_8, e_21_9, e_21_12, e_21_13, e_21_14, e_21_17, e_21_18, e_21_21, e_21_24, e_21_25, e_21_28, e_21_29, e_21_30, e_21_33, e_21_36, e_21_37, e_21_39, e_21_40, e_21_43, e_21_44, e_21_46, e_21_49, e_21_50, e_21_53, e_21_56, e_21_59, e_21_60, e_21_61, e_21_62, e_21_66, e_21_67, e_21_70, e_21_73, e_21_75, e_21_77, e_21_80, e_21_81, e_21_82, e_21_85, e_21_87, e_21_88, e_21_89, e_21_92, e_21_93, e_21_96, e_21_98, e_21_99, e_21_102, e_21_103, e_21_104, e_21_105, e_21_108, e_21_111, e_21_112, i_lit, i_add, i_mul, i_m1, i_lt, i_le, i_eq, i_cl, i_in, i_ltN, i_Nlt, i_leN, i_Nle, i_eN, i_Ne, i_inN, i_l1, i_l2, mj_cpok, mj_nn, reduceCtorEq, lg_self, Nat.not_lt_zero, Nat.zero_le, Nat.reduceEqDiff, Nat.reduceLT, Nat.reduceLeDiff, true_or, or_true, false_or, or_false, not_true_eq_false, not_false_eq_true, true_imp_iff, false_imp_iff, and_self, wrd, u2, and_true, true_and, and_false, false_and, and_self, ite_true, ite_false, reduceIte]
      refine ih (i + 1) J' none none (by omega) (fun a ha hb => (g1 a ha hb).trans (h1 a ha hb)) (fun hn0 t ht => ?_)
      rw [g2 t ht]
      show _ = sumN (fun x => if mv x = some t then fwd mv n i (x / 8) else 0) (8 * n)
      apply sumN_congr
      intro x hx
      rw [h2 hn0 _ (by omega)]
  have ini : ∀ (f i : Nat) (J : Nat → Nat → Int64), i + f = 100 → (∀ a, a ≠ c + 8 + 8 * m → a ≠ c + 9 + 8 * m → J a = wAJ w a) → (0 < n → ∀ t, t < i → J (c + 8 + 8 * m) t = fwd mv n 0 t) →
      mR (d + 3) (setJ w J) 21 2 [some (vR (some (1, 0, c + 2 + 8 * m))), some (vI (Int32.ofNat r)), some (vI (Int32.ofNat k)), some (vI (Int32.ofNat i)), none, none] [] Q := by
    intro f
    induction f with
    | zero =>
      intro i J hi h1 h2
      rw [e_21_2]
      simp (disch := omega) only [e_21_0, e_21_1, e_21_3, e_21_5, e_21_8, e_21_9, e_21_12, e_21_13, e_21_14, e_21_17, e_21_18, e_21_21, e_21_24, e_21_25, e_21_28, e_21_29, e_21_30, e_21_33, e_21_36, e_21_37, e_21_39, e_21_40, e_21_43, e_21_44, e_21_46, e_21_49, e_21_50, e_21_53, e_21_56, e_21_59, e_21_60, e_21_61, e_21_62, e_21_66, e_21_67, e_21_70, e_21_73, e_21_75, e_21_77, e_21_80, e_21_81, e_21_82, e_21_85, e_21_87, e_21_88, e_21_89, e_21_92, e_21_93, e_21_96, e_21_98, e_21_99, e_21_102, e_21_103, e_21_104, e_21_105, e_21_108, e_21_111, e_21_112, i_lit, i_add, i_mul, i_m1, i_lt, i_le, i_eq, i_cl, i_in, i_ltN, i_Nlt, i_leN, i_Nle, i_eN, i_Ne, i_inN, i_l1, i_l2, mj_cpok, mj_nn, reduceCtorEq, lg_self, Nat.not_lt_zero, Nat.zero_le, Nat.reduceEqDiff, Nat.reduceLT, Nat.reduceLeDiff, true_or, or_true, false_or, or_false, not_true_eq_false, not_false_eq_true, true_imp_iff, false_imp_iff, and_self, wrd, u2, and_true, true_and, and_false, false_and, and_self, ite_true, ite_false, reduceIte]
      (repeat' (first | (with_reducible refine And.intro ?_ ?_) | (with_reducible intro _)))
      all_goals try omega
      exact len k 0 J none none (by omega) h1 (fun hn0 t ht => h2 hn0 t (by omega))
    | succ f ih =>
      intro i J hi h1 h2
      rw [e_21_2]
      simp (disch := omega) only [e_21_0, e_21_1, e_21_3, e_21_5, e_21_8, e_21_9, e_21_12, e_21_13, e_21_14, e_21_17, e_21_18, e_21_21, e_21_24, e_21_25, e_21_28, e_21_29, e_21_30, e_21_33, e_21_36, e_21_37, e_21_39, e_21_40, e_21_43, e_21_44, e_21_46, e_21_49, e_21_50, e_21_53, e_21_56, e_21_59, e_21_60, e_21_61, e_21_62, e_21_66, e_21_67, e_21_70, e_21_73, e_21_75, e_21_77, e_21_80, e_21_81, e_21_82, e_21_85, e_21_87, e_21_88, e_21_89, e_21_92, e_21_93, e_21_96, e_21_98, e_21_99, e_21_102, e_21_103, e_21_104, e_21_105, e_21_108, e_21_111, e_21_112, i_lit, i_add, i_mul, i_m1, i_lt, i_le, i_eq, i_cl, i_in, i_ltN, i_Nlt, i_leN, i_Nle, i_eN, i_Ne, i_inN, i_l1, i_l2, mj_cpok, mj_nn, reduceCtorEq, lg_self, Nat.not_lt_zero, Nat.zero_le, Nat.reduceEqDiff, Nat.reduceLT, Nat.reduceLeDiff, true_or, or_true, false_or, or_false, not_true_eq_false, not_false_eq_true, true_imp_iff, false_imp_iff, and_self, wrd, u2, and_true, true_and, and_false, false_and, and_self, ite_true, ite_false, reduceIte, srj, hA.2.1, gs_69 hgs hm]
      (repeat' (first | (with_reducible refine And.intro ?_ ?_) | (with_reducible intro _)))
      all_goals try omega
      all_goals
        refine ih (i + 1) _ (by omega) (fun b hb1 hb2 => by rw [u2_row hb1, h1 b hb1 hb2]) (fun hn0 t ht => ?_)
        rw [u2_at]
        show _ = if t = 0 then (1 : Int64) else 0
        by_cases hti : t = i
        · subst hti
          rw [if_pos rfl]
          first
            | rw [if_neg (by omega)]
            | rw [if_pos (by omega)]
            | (exfalso; omega)
        · rw [if_neg hti, h2 hn0 t (by omega)]; rfl
  rw [e_21_0, e_21_1]
  exact ini 100 0 (wAJ w) (by omega) (fun _ _ _ => rfl) (fun _ t ht => absurd ht (Nat.not_lt_zero t))
end WO
