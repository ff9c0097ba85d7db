/-! build: the reference's sets. -/
section RS
variable {d : Nat} {w : MWd} {Q : MRes → MWd → Prop}
theorem s_128 {r np tp p : Nat} (G : Gr w) (hr : r < 12) (hA : RuleA w r np tp) (hB : RuleB w r np) (hp : p < np) (h : Q (.inl (some (vI (wAI w (7 + 3 * r) p)))) w) :
    mR d w 128 0 [some (vR (some (10, 0, 128))), some (vI (Int32.ofNat r)), some (vI (Int32.ofNat p))] [] Q := by
  have hnp := hA.1
  obtain ⟨-, -, -, -, b5, -⟩ := hB
  simp (disch := omega) only [e_128_0, e_128_1, e_128_4, e_128_6, e_128_7, e_128_8, e_128_9, e_128_10, e_128_11, e_128_12, e_128_15, e_128_16, e_128_17, e_128_18, e_128_19, e_128_20, e_128_21, e_128_22, e_128_25, e_128_26, e_128_29, e_128_30, e_128_31, e_128_34, e_128_35, e_128_36, i_lit, i_add, i_mul, i_m1, i_lt, i_le, i_eq, i_cl, i_in, i_ltN, i_Nlt, i_leN, i_Nle, i_eN, i_Ne, i_inN, i_l1, i_l2, mj_cpok, mj_nn, reduceCtorEq, lg_self, Nat.not_lt_zero, Nat.zero_le, Nat.reduceEqDiff, Nat.reduceLT, Nat.reduceLeDiff, true_or, or_true, false_or, or_false, not_true_eq_false, not_false_eq_true, true_imp_iff, false_imp_iff, and_self, wrd, u2, and_true, true_and, and_false, false_and, and_self, ite_true, ite_false, reduceIte, ts_s1, g_651 G, g_653 G, g_654 G]
  refine ⟨by omega, by omega, fun hb => ?_, fun hb => ⟨by omega, ?_⟩⟩
  · rw [show wAI w 136 (30 * r + p) ||| Int32.ofNat 0 = wAI w (7 + 3 * r) p from bt_ext fun q hq => ?_]
    · exact h
    · rw [b5 p q (by omega) hq, bt_or, bt_0, decide_eq_true hp, Bool.eq_false_iff.mpr hb]; simp
  · rw [show wAI w 136 (30 * r + p) ||| wAI w 139 r = wAI w (7 + 3 * r) p from bt_ext fun q hq => ?_]
    · exact h
    · rw [b5 p q (by omega) hq, bt_or, decide_eq_true hp, hb]; simp
theorem s_129 {r np tp : Nat} (G : Gr w) (hr : r < 12) (hA : RuleA w r np tp) (hB : RuleB w r np) (h : Q (.inl (some (vI (wFI w 329 (6 + 3 * r))))) w) :
    mR d w 129 0 [some (vR (some (10, 0, 128))), some (vI (Int32.ofNat r))] [] Q := by
  obtain ⟨-, -, -, -, -, ⟨-, a6⟩, -⟩ := hA
  obtain ⟨b1, -, b3, -⟩ := hB
  have n01 : (Int32.ofNat 0 = Int32.ofNat 1) = False := eq_false (by decide)
  rcases a6 with e | e
  · have b1' : ∀ p, p < 32 → bt (wFI w 329 (6 + 3 * r)) p = bt (wAI w 138 r) p := fun p hp => by rw [b1 p hp, e, if_neg (by decide)]
    rw [bt_ext b1'] at h
    simp (disch := omega) only [e_129_0, e_129_1, e_129_4, e_129_5, e_129_6, e_129_9, e_129_10, e_129_13, e_129_14, e_129_15, e_129_18, e_129_19, e_129_22, e_129_23, e_129_24, e_129_25, e_129_28, e_129_29, e_129_30, e_129_33, e_129_34, e_129_37, e_129_38, e_129_39, e_129_42, e_129_43, e_129_44, i_lit, i_add, i_mul, i_m1, i_lt, i_le, i_eq, i_cl, i_in, i_ltN, i_Nlt, i_leN, i_Nle, i_eN, i_Ne, i_inN, i_l1, i_l2, mj_cpok, mj_nn, reduceCtorEq, lg_self, Nat.not_lt_zero, Nat.zero_le, Nat.reduceEqDiff, Nat.reduceLT, Nat.reduceLeDiff, true_or, or_true, false_or, or_false, not_true_eq_false, not_false_eq_true, true_imp_iff, false_imp_iff, and_self, wrd, u2, and_true, true_and, and_false, false_and, and_self, ite_true, ite_false, reduceIte, g_648 G, g_653 G, e]
    (repeat' (first | (with_reducible refine And.intro ?_ ?_) | (with_reducible intro _)))
    all_goals first | omega | exact h
  · rcases b3 with e2 | e2
    · have b1' : ∀ p, p < 32 → bt (wFI w 329 (6 + 3 * r)) p = bt (wAI w 140 r ||| Int32.ofNat 0) p := fun p hp => by rw [b1 p hp, e, if_pos rfl, e2, bt_or, bt_0, decide_eq_false (by decide)]; rfl
      rw [bt_ext b1'] at h
      simp (disch := omega) only [e_129_0, e_129_1, e_129_4, e_129_5, e_129_6, e_129_9, e_129_10, e_129_13, e_129_14, e_129_15, e_129_18, e_129_19, e_129_22, e_129_23, e_129_24, e_129_25, e_129_28, e_129_29, e_129_30, e_129_33, e_129_34, e_129_37, e_129_38, e_129_39, e_129_42, e_129_43, e_129_44, i_lit, i_add, i_mul, i_m1, i_lt, i_le, i_eq, i_cl, i_in, i_ltN, i_Nlt, i_leN, i_Nle, i_eN, i_Ne, i_inN, i_l1, i_l2, mj_cpok, mj_nn, reduceCtorEq, lg_self, Nat.not_lt_zero, Nat.zero_le, Nat.reduceEqDiff, Nat.reduceLT, Nat.reduceLeDiff, true_or, or_true, false_or, or_false, not_true_eq_false, not_false_eq_true, true_imp_iff, false_imp_iff, and_self, wrd, u2, and_true, true_and, and_false, false_and, and_self, ite_true, ite_false, reduceIte, g_648 G, g_653 G, g_655 G, g_656 G, e, e2]
      (repeat' (first | (with_reducible refine And.intro ?_ ?_) | (with_reducible intro _)))
      all_goals first | omega | exact h
    · have b1' : ∀ p, p < 32 → bt (wFI w 329 (6 + 3 * r)) p = bt (wAI w 140 r ||| wAI w 138 r) p := fun p hp => by rw [b1 p hp, e, if_pos rfl, e2, bt_or, decide_eq_true rfl]; rfl
      rw [bt_ext b1'] at h
      simp (disch := omega) only [e_129_0, e_129_1, e_129_4, e_129_5, e_129_6, e_129_9, e_129_10, e_129_13, e_129_14, e_129_15, e_129_18, e_129_19, e_129_22, e_129_23, e_129_24, e_129_25, e_129_28, e_129_29, e_129_30, e_129_33, e_129_34, e_129_37, e_129_38, e_129_39, e_129_42, e_129_43, e_129_44, i_lit, i_add, i_mul, i_m1, i_lt, i_le, i_eq, i_cl, i_in, i_ltN, i_Nlt, i_leN, i_Nle, i_eN, i_Ne, i_inN, i_l1, i_l2, mj_cpok, mj_nn, reduceCtorEq, lg_self, Nat.not_lt_zero, Nat.zero_le, Nat.reduceEqDiff, Nat.reduceLT, Nat.reduceLeDiff, true_or, or_true, false_or, or_false, not_true_eq_false, not_false_eq_true, true_imp_iff, false_imp_iff, and_self, wrd, u2, and_true, true_and, and_false, false_and, and_self, ite_true, ite_false, reduceIte, g_648 G, g_653 G, g_655 G, g_656 G, e, e2]
      (repeat' (first | (with_reducible refine And.intro ?_ ?_) | (with_reducible intro _)))
      all_goals first | omega | exact h
theorem s_136 {r np tp l : Nat} {x : Int32} (G : Gr w) (hr : r < 12) (hA : RuleA w r np tp) (hB : RuleB w r np) (hl : l < 8) (h : Q (.inl (some (vI (x &&& wAI w (8 + 3 * r) l)))) w) :
    mR d w 136 0 [some (vR (some (10, 0, 128))), some (vI (Int32.ofNat r)), some (vI x), some (vI (Int32.ofNat l)), none, none] [] Q := by
  have hnp := hA.1
  have enp : wAI w 134 r = Int32.ofNat np := hA.2.2.2.2.2.2.2.1
  have b6 := hB.2.2.2.2.2
  have loop : ∀ (f p : Nat) (y : Int32), p + f = np → (∀ q, q < 32 → bt y q = (decide (q < p) && bt (x &&& wAI w (8 + 3 * r) l) q)) → mR d w 136 6 [some (vR (some (10, 0, 128))), some (vI (Int32.ofNat r)), some (vI x), some (vI (Int32.ofNat l)), some (vI y), some (vI (Int32.ofNat p))] [] Q := by
    intro f
    induction f with
    | zero =>
      intro p y hp hy
      have he : p = np := by omega
      subst he
      rw [e_136_6]
      simp (disch := omega) only [e_136_0, e_136_1, e_136_3, e_136_4, e_136_8, e_136_9, e_136_12, e_136_13, e_136_14, e_136_17, e_136_18, e_136_19, e_136_22, e_136_23, e_136_24, e_136_25, e_136_27, e_136_28, e_136_29, e_136_30, e_136_31, e_136_34, e_136_35, e_136_38, e_136_40, e_136_41, e_136_42, e_136_44, e_136_45, e_136_46, e_136_47, e_136_48, e_136_49, e_136_50, e_136_51, e_136_54, e_136_56, e_136_57, e_136_59, e_136_60, e_136_61, e_136_63, e_136_66, e_136_69, e_136_71, i_lit, i_add, i_mul, i_m1, i_lt, i_le, i_eq, i_cl, i_in, i_ltN, i_Nlt, i_leN, i_Nle, i_eN, i_Ne, i_inN, i_l1, i_l2, mj_cpok, mj_nn, reduceCtorEq, lg_self, Nat.not_lt_zero, Nat.zero_le, Nat.reduceEqDiff, Nat.reduceLT, Nat.reduceLeDiff, true_or, or_true, false_or, or_false, not_true_eq_false, not_false_eq_true, true_imp_iff, false_imp_iff, and_self, wrd, u2, and_true, true_and, and_false, false_and, and_self, ite_true, ite_false, reduceIte, g_649 G, enp]
      (repeat' (first | (with_reducible refine And.intro ?_ ?_) | (with_reducible intro _)))
      all_goals try omega
      rw [show y = x &&& wAI w (8 + 3 * r) l from bt_ext fun q hq => ?_]
      · exact h
      · rw [hy q hq, bt_and, b6 l q hl hq]
        cases bt x q <;> cases decide (q < p) <;> rfl
    | succ f ih =>
      intro p y hp hy
      have hb := b6 l p hl (by omega)
      rw [decide_eq_true (show p < np by omega), Bool.true_and] at hb
      have fin0 : bt (x &&& wAI w (8 + 3 * r) l) p = false → mR d w 136 6 [some (vR (some (10, 0, 128))), some (vI (Int32.ofNat r)), some (vI x), some (vI (Int32.ofNat l)), some (vI y), some (vI (Int32.ofNat (p + 1)))] [] Q := by
        intro hbt
        refine ih (p + 1) y (by omega) (fun q hq => ?_)
        rw [hy q hq]
        by_cases hqp : q = p
        · subst hqp; rw [hbt, Bool.and_false, Bool.and_false]
        · by_cases hlt : q < p
          · rw [decide_eq_true hlt, decide_eq_true (show q < p + 1 by omega)]
          · rw [decide_eq_false hlt, decide_eq_false (show ¬ q < p + 1 by omega)]
      rw [e_136_6]
      simp (disch := omega) only [e_136_0, e_136_1, e_136_3, e_136_4, e_136_8, e_136_9, e_136_12, e_136_13, e_136_14, e_136_17, e_136_18, e_136_19, e_136_22, e_136_23, e_136_24, e_136_25, e_136_27, e_136_28, e_136_29, e_136_30, e_136_31, e_136_34, e_136_35, e_136_38, e_136_40, e_136_41, e_136_42, e_136_44, e_136_45, e_136_46, e_136_47, e_136_48, e_136_49, e_136_50, e_136_51, e_136_54, e_136_56, e_136_57, e_136_59, e_136_60, e_136_61, e_136_63, e_136_66, e_136_69, e_136_71, i_lit, i_add, i_mul, i_m1, i_lt, i_le, i_eq, i_cl, i_in, i_ltN, i_Nlt, i_leN, i_Nle, i_eN, i_Ne, i_inN, i_l1, i_l2, mj_cpok, mj_nn, reduceCtorEq, lg_self, Nat.not_lt_zero, Nat.zero_le, Nat.reduceEqDiff, Nat.reduceLT, Nat.reduceLeDiff, true_or, or_true, false_or, or_false, not_true_eq_false, not_false_eq_true, true_imp_iff, false_imp_iff, and_self, wrd, u2, and_true, true_and, and_false, false_and, and_self, ite_true, ite_false, reduceIte, ts_s1, g_649 G, g_650 G, g_657 G, enp]
      (repeat' (first | (with_reducible refine And.intro ?_ ?_) | (with_reducible intro _)))
      all_goals try omega
      · rename_i h1
        apply fin0
        rw [bt_and, hb]
        rw [bt_and] at h1
        cases hx : bt x p <;> cases hu : bt (wAI w 142 r) p <;> simp_all
      · rename_i h1 h2
        apply fin0
        rw [bt_and, hb, Bool.eq_false_iff.mpr h2, Bool.false_and, Bool.and_false]
      · rename_i h1 h2
        refine ih (p + 1) _ (by omega) (fun q hq => ?_)
        rw [bt_or, bt_bit (by omega), hy q hq]
        by_cases hqp : p = q
        · subst hqp
          rw [bt_and] at h1
          rw [decide_eq_true rfl, Bool.or_true, decide_eq_true (show p < p + 1 by omega), bt_and, hb, h2]
          cases hx : bt x p <;> cases hu : bt (wAI w 142 r) p <;> simp_all
        · rw [decide_eq_false hqp, Bool.or_false]
          by_cases hlt : q < p
          · rw [decide_eq_true hlt, decide_eq_true (show q < p + 1 by omega)]
          · rw [decide_eq_false hlt, decide_eq_false (show ¬ q < p + 1 by omega)]
  rw [e_136_0, e_136_1, e_136_3, e_136_4]
  exact loop np 0 _ (by omega) (fun q hq => by rw [show (0 : Int32) = Int32.ofNat 0 from rfl, bt_0]; rfl)
theorem folU_np {fo : Nat → Int32} {x : Int32} {np : Nat} (h : ∀ p, np ≤ p → p < 30 → fo p = Int32.ofNat 0) : ∀ (f : Nat), np + f ≤ 30 → folU fo x (np + f) = folU fo x np
  | 0, _ => rfl
  | f + 1, hf => by
    show (if bt x (np + f) = true then folU fo x (np + f) ||| fo (np + f) else folU fo x (np + f)) = _
    rw [folU_np h f (by omega), h (np + f) (by omega) (by omega)]
    have e : folU fo x np ||| Int32.ofNat 0 = folU fo x np := bt_ext fun q hq => by rw [bt_or, bt_0, Bool.or_false]
    rw [e]
    by_cases hb : bt x (np + f) = true
    · rw [if_pos hb]
    · rw [if_neg hb]
theorem s_137 {r np tp l s : Nat} (G : Gr w) (hr : r < 12) (hA : RuleA w r np tp) (hB : RuleB w r np) (hl : l < 8) (hs : s ≤ 100) (h : Q (.inl (some (vI ((if s = 0 then wFI w 328 (6 + 3 * r) else folU (wAI w (7 + 3 * r)) (wAI w 155 (12 * s + r)) 30) &&& wAI w (8 + 3 * r) l)))) w) :
    mR (d + 1) w 137 0 [some (vR (some (10, 0, 128))), some (vI (Int32.ofNat s)), some (vI (Int32.ofNat r)), some (vI (Int32.ofNat l)), none, none] [] Q := by
  have hnp := hA.1
  have enp : wAI w 134 r = Int32.ofNat np := hA.2.2.2.2.2.2.2.1
  have ef : wFI w 328 (6 + 3 * r) = wAI w 137 r := hA.2.2.2.2.2.2.2.2.2.1
  have hz : ∀ p, np ≤ p → p < 30 → wAI w (7 + 3 * r) p = Int32.ofNat 0 := fun p h1 h2 => ts_0.mpr fun q hq => by rw [hB.2.2.2.2.1 p q h2 hq, decide_eq_false (by omega)]; rfl
  by_cases h0 : s = 0
  · subst h0
    rw [if_pos rfl, ef] at h
    simp (disch := omega) only [e_137_0, e_137_1, e_137_4, e_137_5, e_137_8, e_137_9, e_137_10, e_137_13, e_137_14, e_137_16, e_137_17, e_137_21, e_137_22, e_137_25, e_137_26, e_137_27, e_137_30, e_137_31, e_137_34, e_137_35, e_137_38, e_137_40, e_137_41, e_137_42, e_137_43, e_137_44, e_137_45, e_137_47, e_137_48, e_137_49, e_137_50, e_137_51, e_137_54, e_137_56, e_137_57, e_137_58, e_137_60, e_137_63, e_137_64, e_137_66, e_137_69, e_137_72, e_137_73, e_137_74, e_137_76, e_137_77, e_137_80, i_lit, i_add, i_mul, i_m1, i_lt, i_le, i_eq, i_cl, i_in, i_ltN, i_Nlt, i_leN, i_Nle, i_eN, i_Ne, i_inN, i_l1, i_l2, mj_cpok, mj_nn, reduceCtorEq, lg_self, Nat.not_lt_zero, Nat.zero_le, Nat.reduceEqDiff, Nat.reduceLT, Nat.reduceLeDiff, true_or, or_true, false_or, or_false, not_true_eq_false, not_false_eq_true, true_imp_iff, false_imp_iff, and_self, wrd, u2, and_true, true_and, and_false, false_and, and_self, ite_true, ite_false, reduceIte, g_652 G]
    refine ⟨hr, ?_⟩
    rw [e_137_19]
    simp (disch := omega) only [e_137_0, e_137_1, e_137_4, e_137_5, e_137_8, e_137_9, e_137_10, e_137_13, e_137_14, e_137_16, e_137_17, e_137_21, e_137_22, e_137_25, e_137_26, e_137_27, e_137_30, e_137_31, e_137_34, e_137_35, e_137_38, e_137_40, e_137_41, e_137_42, e_137_43, e_137_44, e_137_45, e_137_47, e_137_48, e_137_49, e_137_50, e_137_51, e_137_54, e_137_56, e_137_57, e_137_58, e_137_60, e_137_63, e_137_64, e_137_66, e_137_69, e_137_72, e_137_73, e_137_74, e_137_76, e_137_77, e_137_80, i_lit, i_add, i_mul, i_m1, i_lt, i_le, i_eq, i_cl, i_in, i_ltN, i_Nlt, i_leN, i_Nle, i_eN, i_Ne, i_inN, i_l1, i_l2, mj_cpok, mj_nn, reduceCtorEq, lg_self, Nat.not_lt_zero, Nat.zero_le, Nat.reduceEqDiff, Nat.reduceLT, Nat.reduceLeDiff, true_or, or_true, false_or, or_false, not_true_eq_false, not_false_eq_true, true_imp_iff, false_imp_iff, and_self, wrd, u2, and_true, true_and, and_false, false_and, and_self, ite_true, ite_false, reduceIte, g_649 G, enp]
    (repeat' (first | (with_reducible refine And.intro ?_ ?_) | (with_reducible intro _)))
    all_goals try omega
    all_goals
      refine s_136 G hr hA hB hl ?_
      simp only [mK_v, e_137_0, e_137_1, e_137_4, e_137_5, e_137_8, e_137_9, e_137_10, e_137_13, e_137_14, e_137_16, e_137_17, e_137_21, e_137_22, e_137_25, e_137_26, e_137_27, e_137_30, e_137_31, e_137_34, e_137_35, e_137_38, e_137_40, e_137_41, e_137_42, e_137_43, e_137_44, e_137_45, e_137_47, e_137_48, e_137_49, e_137_50, e_137_51, e_137_54, e_137_56, e_137_57, e_137_58, e_137_60, e_137_63, e_137_64, e_137_66, e_137_69, e_137_72, e_137_73, e_137_74, e_137_76, e_137_77, e_137_80]
      exact h
  · rw [if_neg h0] at h
    have loop : ∀ (f p : Nat) (y : Int32), p + f = np → y = folU (wAI w (7 + 3 * r)) (wAI w 155 (12 * s + r)) p → mR (d + 1) w 137 19 [some (vR (some (10, 0, 128))), some (vI (Int32.ofNat s)), some (vI (Int32.ofNat r)), some (vI (Int32.ofNat l)), some (vI y), some (vI (Int32.ofNat p))] [] Q := by
      intro f
      induction f with
      | zero =>
        intro p y hp hy
        have he : p = np := by omega
        subst he
        rw [e_137_19]
        simp (disch := omega) only [e_137_0, e_137_1, e_137_4, e_137_5, e_137_8, e_137_9, e_137_10, e_137_13, e_137_14, e_137_16, e_137_17, e_137_21, e_137_22, e_137_25, e_137_26, e_137_27, e_137_30, e_137_31, e_137_34, e_137_35, e_137_38, e_137_40, e_137_41, e_137_42, e_137_43, e_137_44, e_137_45, e_137_47, e_137_48, e_137_49, e_137_50, e_137_51, e_137_54, e_137_56, e_137_57, e_137_58, e_137_60, e_137_63, e_137_64, e_137_66, e_137_69, e_137_72, e_137_73, e_137_74, e_137_76, e_137_77, e_137_80, i_lit, i_add, i_mul, i_m1, i_lt, i_le, i_eq, i_cl, i_in, i_ltN, i_Nlt, i_leN, i_Nle, i_eN, i_Ne, i_inN, i_l1, i_l2, mj_cpok, mj_nn, reduceCtorEq, lg_self, Nat.not_lt_zero, Nat.zero_le, Nat.reduceEqDiff, Nat.reduceLT, Nat.reduceLeDiff, true_or, or_true, false_or, or_false, not_true_eq_false, not_false_eq_true, true_imp_iff, false_imp_iff, and_self, wrd, u2, and_true, true_and, and_false, false_and, and_self, ite_true, ite_false, reduceIte, g_649 G, enp]
        (repeat' (first | (with_reducible refine And.intro ?_ ?_) | (with_reducible intro _)))
        all_goals try omega
        refine s_136 G hr hA hB hl ?_
        simp only [mK_v, e_137_0, e_137_1, e_137_4, e_137_5, e_137_8, e_137_9, e_137_10, e_137_13, e_137_14, e_137_16, e_137_17, e_137_21, e_137_22, e_137_25, e_137_26, e_137_27, e_137_30, e_137_31, e_137_34, e_137_35, e_137_38, e_137_40, e_137_41, e_137_42, e_137_43, e_137_44, e_137_45, e_137_47, e_137_48, e_137_49, e_137_50, e_137_51, e_137_54, e_137_56, e_137_57, e_137_58, e_137_60, e_137_63, e_137_64, e_137_66, e_137_69, e_137_72, e_137_73, e_137_74, e_137_76, e_137_77, e_137_80]
        have := folU_np (x := wAI w 155 (12 * s + r)) hz (30 - p) (by omega)
        rw [show p + (30 - p) = 30 by omega] at this
        rw [hy, ← this]; exact h
      | succ f ih =>
        intro p y hp hy
        rw [e_137_19]
        simp (disch := omega) only [e_137_0, e_137_1, e_137_4, e_137_5, e_137_8, e_137_9, e_137_10, e_137_13, e_137_14, e_137_16, e_137_17, e_137_21, e_137_22, e_137_25, e_137_26, e_137_27, e_137_30, e_137_31, e_137_34, e_137_35, e_137_38, e_137_40, e_137_41, e_137_42, e_137_43, e_137_44, e_137_45, e_137_47, e_137_48, e_137_49, e_137_50, e_137_51, e_137_54, e_137_56, e_137_57, e_137_58, e_137_60, e_137_63, e_137_64, e_137_66, e_137_69, e_137_72, e_137_73, e_137_74, e_137_76, e_137_77, e_137_80, i_lit, i_add, i_mul, i_m1, i_lt, i_le, i_eq, i_cl, i_in, i_ltN, i_Nlt, i_leN, i_Nle, i_eN, i_Ne, i_inN, i_l1, i_l2, mj_cpok, mj_nn, reduceCtorEq, lg_self, Nat.not_lt_zero, Nat.zero_le, Nat.reduceEqDiff, Nat.reduceLT, Nat.reduceLeDiff, true_or, or_true, false_or, or_false, not_true_eq_false, not_false_eq_true, true_imp_iff, false_imp_iff, and_self, wrd, u2, and_true, true_and, and_false, false_and, and_self, ite_true, ite_false, reduceIte, ts_s1, g_649 G, g_670 G, enp]
        (repeat' (first | (with_reducible refine And.intro ?_ ?_) | (with_reducible intro _)))
        all_goals try omega
        · rename_i hb
          refine ih (p + 1) _ (by omega) ?_
          rw [hy]
          show _ = if bt (wAI w 155 (12 * s + r)) p = true then _ else _
          rw [if_neg hb]
        · rename_i hb
          refine s_128 G hr hA hB (by omega) ?_
          simp (disch := omega) only [mK_v, e_137_0, e_137_1, e_137_4, e_137_5, e_137_8, e_137_9, e_137_10, e_137_13, e_137_14, e_137_16, e_137_17, e_137_21, e_137_22, e_137_25, e_137_26, e_137_27, e_137_30, e_137_31, e_137_34, e_137_35, e_137_38, e_137_40, e_137_41, e_137_42, e_137_43, e_137_44, e_137_45, e_137_47, e_137_48, e_137_49, e_137_50, e_137_51, e_137_54, e_137_56, e_137_57, e_137_58, e_137_60, e_137_63, e_137_64, e_137_66, e_137_69, e_137_72, e_137_73, e_137_74, e_137_76, e_137_77, e_137_80, i_lit, i_add, i_mul, i_m1, i_lt, i_le, i_eq, i_cl, i_in, i_ltN, i_Nlt, i_leN, i_Nle, i_eN, i_Ne, i_inN, i_l1, i_l2, mj_cpok, mj_nn, reduceCtorEq, lg_self, Nat.not_lt_zero, Nat.zero_le, Nat.reduceEqDiff, Nat.reduceLT, Nat.reduceLeDiff, true_or, or_true, false_or, or_false, not_true_eq_false, not_false_eq_true, true_imp_iff, false_imp_iff, and_self, wrd, u2, and_true, true_and, and_false, false_and, and_self, ite_true, ite_false, reduceIte]
          refine ih (p + 1) _ (by omega) ?_
          rw [hy]
          show _ = if bt (wAI w 155 (12 * s + r)) p = true then _ else _
          rw [if_pos hb]
    simp (disch := omega) only [e_137_0, e_137_1, e_137_4, e_137_5, e_137_8, e_137_9, e_137_10, e_137_13, e_137_14, e_137_16, e_137_17, e_137_21, e_137_22, e_137_25, e_137_26, e_137_27, e_137_30, e_137_31, e_137_34, e_137_35, e_137_38, e_137_40, e_137_41, e_137_42, e_137_43, e_137_44, e_137_45, e_137_47, e_137_48, e_137_49, e_137_50, e_137_51, e_137_54, e_137_56, e_137_57, e_137_58, e_137_60, e_137_63, e_137_64, e_137_66, e_137_69, e_137_72, e_137_73, e_137_74, e_137_76, e_137_77, e_137_80, i_lit, i_add, i_mul, i_m1, i_lt, i_le, i_eq, i_cl, i_in, i_ltN, i_Nlt, i_leN, i_Nle, i_eN, i_Ne, i_inN, i_l1, i_l2, mj_cpok, mj_nn, reduceCtorEq, lg_self, Nat.not_lt_zero, Nat.zero_le, Nat.reduceEqDiff, Nat.reduceLT, Nat.reduceLeDiff, true_or, or_true, false_or, or_false, not_true_eq_false, not_false_eq_true, true_imp_iff, false_imp_iff, and_self, wrd, u2, and_true, true_and, and_false, false_and, and_self, ite_true, ite_false, reduceIte]
    (repeat' (first | (with_reducible refine And.intro ?_ ?_) | (with_reducible intro _)))
    all_goals try omega
    exact loop np 0 _ (by omega) rfl
theorem s_139 {a b : Nat} (G : Gr w) (ha : a ≤ 100) (hb : b ≤ 100) (h1 : (∀ r, r < 12 → wAI w 155 (12 * a + r) = wAI w 155 (12 * b + r)) → Q (.inl (some (vI (Int32.ofNat 1)))) w) (h2 : (¬ ∀ r, r < 12 → wAI w 155 (12 * a + r) = wAI w 155 (12 * b + r)) → Q (.inl (some (vI (Int32.ofNat 0)))) w) :
    mR d w 139 0 [some (vR (some (10, 0, 128))), some (vI (Int32.ofNat a)), some (vI (Int32.ofNat b)), none, none] [] Q := by
  have loop : ∀ (f r : Nat) (y : Int32), r + f = 12 → (y = Int32.ofNat 1 ∧ (∀ q, q < r → wAI w 155 (12 * a + q) = wAI w 155 (12 * b + q)) ∨ y = Int32.ofNat 0 ∧ ¬ ∀ q, q < r → wAI w 155 (12 * a + q) = wAI w 155 (12 * b + q)) →
      mR d w 139 5 [some (vR (some (10, 0, 128))), some (vI (Int32.ofNat a)), some (vI (Int32.ofNat b)), some (vI y), some (vI (Int32.ofNat r))] [] Q := by
    intro f
    induction f with
    | zero =>
      intro r y hr h
      have he : r = 12 := by omega
      subst he
      rw [e_139_5]
      rcases h with ⟨rfl, h⟩ | ⟨rfl, h⟩
      · simp (disch := omega) only [e_139_0, e_139_1, e_139_2, e_139_3, e_139_7, e_139_9, e_139_12, e_139_13, e_139_16, e_139_17, e_139_20, e_139_22, e_139_23, e_139_24, e_139_26, e_139_27, e_139_28, e_139_29, e_139_32, e_139_34, e_139_35, e_139_36, e_139_38, e_139_39, e_139_40, e_139_43, e_139_44, e_139_47, e_139_48, e_139_49, e_139_52, e_139_55, e_139_56, i_lit, i_add, i_mul, i_m1, i_lt, i_le, i_eq, i_cl, i_in, i_ltN, i_Nlt, i_leN, i_Nle, i_eN, i_Ne, i_inN, i_l1, i_l2, mj_cpok, mj_nn, reduceCtorEq, lg_self, Nat.not_lt_zero, Nat.zero_le, Nat.reduceEqDiff, Nat.reduceLT, Nat.reduceLeDiff, true_or, or_true, false_or, or_false, not_true_eq_false, not_false_eq_true, true_imp_iff, false_imp_iff, and_self, wrd, u2, and_true, true_and, and_false, false_and, and_self, ite_true, ite_false, reduceIte]
        (repeat' (first | (with_reducible refine And.intro ?_ ?_) | (with_reducible intro _)))
        all_goals first | omega | exact h1 h
      · simp (disch := omega) only [e_139_0, e_139_1, e_139_2, e_139_3, e_139_7, e_139_9, e_139_12, e_139_13, e_139_16, e_139_17, e_139_20, e_139_22, e_139_23, e_139_24, e_139_26, e_139_27, e_139_28, e_139_29, e_139_32, e_139_34, e_139_35, e_139_36, e_139_38, e_139_39, e_139_40, e_139_43, e_139_44, e_139_47, e_139_48, e_139_49, e_139_52, e_139_55, e_139_56, i_lit, i_add, i_mul, i_m1, i_lt, i_le, i_eq, i_cl, i_in, i_ltN, i_Nlt, i_leN, i_Nle, i_eN, i_Ne, i_inN, i_l1, i_l2, mj_cpok, mj_nn, reduceCtorEq, lg_self, Nat.not_lt_zero, Nat.zero_le, Nat.reduceEqDiff, Nat.reduceLT, Nat.reduceLeDiff, true_or, or_true, false_or, or_false, not_true_eq_false, not_false_eq_true, true_imp_iff, false_imp_iff, and_self, wrd, u2, and_true, true_and, and_false, false_and, and_self, ite_true, ite_false, reduceIte]
        (repeat' (first | (with_reducible refine And.intro ?_ ?_) | (with_reducible intro _)))
        all_goals first | omega | exact h2 h
    | succ f ih =>
      intro r y hr h
      rw [e_139_5]
      rcases h with ⟨rfl, h⟩ | ⟨rfl, h⟩
      · simp (disch := omega) only [e_139_0, e_139_1, e_139_2, e_139_3, e_139_7, e_139_9, e_139_12, e_139_13, e_139_16, e_139_17, e_139_20, e_139_22, e_139_23, e_139_24, e_139_26, e_139_27, e_139_28, e_139_29, e_139_32, e_139_34, e_139_35, e_139_36, e_139_38, e_139_39, e_139_40, e_139_43, e_139_44, e_139_47, e_139_48, e_139_49, e_139_52, e_139_55, e_139_56, i_lit, i_add, i_mul, i_m1, i_lt, i_le, i_eq, i_cl, i_in, i_ltN, i_Nlt, i_leN, i_Nle, i_eN, i_Ne, i_inN, i_l1, i_l2, mj_cpok, mj_nn, reduceCtorEq, lg_self, Nat.not_lt_zero, Nat.zero_le, Nat.reduceEqDiff, Nat.reduceLT, Nat.reduceLeDiff, true_or, or_true, false_or, or_false, not_true_eq_false, not_false_eq_true, true_imp_iff, false_imp_iff, and_self, wrd, u2, and_true, true_and, and_false, false_and, and_self, ite_true, ite_false, reduceIte, g_670 G]
        (repeat' (first | (with_reducible refine And.intro ?_ ?_) | (with_reducible intro _)))
        all_goals try omega
        · rename_i hne
          exact ih (r + 1) _ (by omega) (Or.inr ⟨rfl, fun q => hne (q r (by omega))⟩)
        · rename_i he
          refine ih (r + 1) _ (by omega) (Or.inl ⟨rfl, fun q hq => ?_⟩)
          by_cases hqr : q = r
          · subst hqr; exact he
          · exact h q (by omega)
      · simp (disch := omega) only [e_139_0, e_139_1, e_139_2, e_139_3, e_139_7, e_139_9, e_139_12, e_139_13, e_139_16, e_139_17, e_139_20, e_139_22, e_139_23, e_139_24, e_139_26, e_139_27, e_139_28, e_139_29, e_139_32, e_139_34, e_139_35, e_139_36, e_139_38, e_139_39, e_139_40, e_139_43, e_139_44, e_139_47, e_139_48, e_139_49, e_139_52, e_139_55, e_139_56, i_lit, i_add, i_mul, i_m1, i_lt, i_le, i_eq, i_cl, i_in, i_ltN, i_Nlt, i_leN, i_Nle, i_eN, i_Ne, i_inN, i_l1, i_l2, mj_cpok, mj_nn, reduceCtorEq, lg_self, Nat.not_lt_zero, Nat.zero_le, Nat.reduceEqDiff, Nat.reduceLT, Nat.reduceLeDiff, true_or, or_true, false_or, or_false, not_true_eq_false, not_false_eq_true, true_imp_iff, false_imp_iff, and_self, wrd, u2, and_true, true_and, and_false, false_and, and_self, ite_true, ite_false, reduceIte]
        (repeat' (first | (with_reducible refine And.intro ?_ ?_) | (with_reducible intro _)))
        all_goals try omega
        exact ih (r + 1) _ (by omega) (Or.inr ⟨rfl, fun q => h fun x hx => q x (by omega)⟩)
  rw [e_139_0, e_139_1, e_139_2, e_139_3]
  exact loop 12 0 _ (by omega) (Or.inl ⟨rfl, fun q hq => absurd hq (Nat.not_lt_zero q)⟩)
end RS
