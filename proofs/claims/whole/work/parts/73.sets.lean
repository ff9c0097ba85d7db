/-! The class's search for a set. -/
theorem or_zero (x y : Int32) : x ||| y = Int32.ofNat 0 ↔ x = Int32.ofNat 0 ∧ y = Int32.ofNat 0 := by
  rw [ts_0, ts_0, ts_0]
  constructor
  · intro h
    constructor
    · intro p hp
      have := h p hp
      rw [bt_or] at this
      exact (Bool.or_eq_false_iff.mp this).1
    · intro p hp
      have := h p hp
      rw [bt_or] at this
      exact (Bool.or_eq_false_iff.mp this).2
  · intro h p hp
    rw [bt_or, h.1 p hp, h.2 p hp]; rfl
section CS
variable {d : Nat} {w : MWd} {Q : MRes → MWd → Prop}
theorem s_32 {k : Nat} (G : Gr w) (hk : k < 100) (h1 : (∀ r, r < 12 → wAI w 48 (12 * k + r) = wAI w 52 r) → Q (.inl (some (vI (Int32.ofNat 1)))) w) (h2 : (¬ ∀ r, r < 12 → wAI w 48 (12 * k + r) = wAI w 52 r) → Q (.inl (some (vI (Int32.ofNat 0)))) w) :
    mR d w 32 0 [some (vR (some (3, 0, 47))), some (vI (Int32.ofNat k)), none] [] Q := by
  rw [Nat.mul_comm 12 k] at h1 h2
  have loop : ∀ (f r : Nat), r + f = 12 → (∀ q, q < r → wAI w 48 (k * 12 + q) = wAI w 52 q) → mR d w 32 2 [some (vR (some (3, 0, 47))), some (vI (Int32.ofNat k)), some (vI (Int32.ofNat r))] [] Q := by
    intro f
    induction f with
    | zero =>
      intro r hr h
      rw [e_32_2]
      simp (disch := omega) only [e_32_0, e_32_1, e_32_3, e_32_5, e_32_8, e_32_9, e_32_12, e_32_13, e_32_15, e_32_16, e_32_17, e_32_18, e_32_19, e_32_20, e_32_23, e_32_24, e_32_25, e_32_28, e_32_29, e_32_30, e_32_33, e_32_36, e_32_37, i_lit, i_add, i_mul, i_m1, i_lt, i_le, i_eq, i_cl, i_in, i_ltN, i_Nlt, i_leN, i_Nle, i_eN, i_Ne, i_inN, i_l1, i_l2, mj_cpok, mj_nn, reduceCtorEq, lg_self, Nat.not_lt_zero, Nat.zero_le, Nat.reduceEqDiff, Nat.reduceLT, Nat.reduceLeDiff, true_or, or_true, false_or, or_false, not_true_eq_false, not_false_eq_true, true_imp_iff, false_imp_iff, and_self, wrd, u2, and_true, true_and, and_false, false_and, and_self, ite_true, ite_false, reduceIte]
      (repeat' (first | (with_reducible refine And.intro ?_ ?_) | (with_reducible intro _)))
      all_goals try omega
      exact h1 fun q hq => h q (by omega)
    | succ f ih =>
      intro r hr h
      rw [e_32_2]
      simp (disch := omega) only [e_32_0, e_32_1, e_32_3, e_32_5, e_32_8, e_32_9, e_32_12, e_32_13, e_32_15, e_32_16, e_32_17, e_32_18, e_32_19, e_32_20, e_32_23, e_32_24, e_32_25, e_32_28, e_32_29, e_32_30, e_32_33, e_32_36, e_32_37, i_lit, i_add, i_mul, i_m1, i_lt, i_le, i_eq, i_cl, i_in, i_ltN, i_Nlt, i_leN, i_Nle, i_eN, i_Ne, i_inN, i_l1, i_l2, mj_cpok, mj_nn, reduceCtorEq, lg_self, Nat.not_lt_zero, Nat.zero_le, Nat.reduceEqDiff, Nat.reduceLT, Nat.reduceLeDiff, true_or, or_true, false_or, or_false, not_true_eq_false, not_false_eq_true, true_imp_iff, false_imp_iff, and_self, wrd, u2, and_true, true_and, and_false, false_and, and_self, ite_true, ite_false, reduceIte, g_192 G, g_196 G]
      (repeat' (first | (with_reducible refine And.intro ?_ ?_) | (with_reducible intro _)))
      all_goals try omega
      · rename_i he
        refine ih (r + 1) (by omega) (fun q hq => ?_)
        by_cases hqr : q = r
        · subst hqr; exact he
        · exact h q (by omega)
      · rename_i he
        exact h2 fun q => he (q r (by omega))
  rw [e_32_0, e_32_1]
  exact loop 12 0 (by omega) (fun q hq => absurd hq (Nat.not_lt_zero q))
theorem s_31 {n : Nat} (G : Gr w) (hn0 : 1 ≤ n) (hn : n ≤ 100) (h1 : wFI w 201 47 = Int32.ofNat n)
    (K1 : ∀ k, 1 ≤ k → k < n → (∀ r, r < 12 → wAI w 48 (12 * k + r) = wAI w 52 r) → (∀ j, 1 ≤ j → j < k → ¬ ∀ r, r < 12 → wAI w 48 (12 * j + r) = wAI w 52 r) → Q (.inl (some (vI (Int32.ofNat k)))) w)
    (K2 : (∀ j, 1 ≤ j → j < n → ¬ ∀ r, r < 12 → wAI w 48 (12 * j + r) = wAI w 52 r) → n = 100 → Q (.inl (some (vI (-2)))) w)
    (K3 : (∀ j, 1 ≤ j → j < n → ¬ ∀ r, r < 12 → wAI w 48 (12 * j + r) = wAI w 52 r) → n < 100 → Q (.inl (some (vI (Int32.ofNat n)))) (sFI (cpI w 52 0 48 (n * 12) 12) 201 47 (Int32.ofNat (n + 1)))) :
    mR (d + 1) w 31 0 [some (vR (some (3, 0, 47))), none] [] Q := by
  have loop : ∀ (f k : Nat), k + f = n → 1 ≤ k → (∀ j, 1 ≤ j → j < k → ¬ ∀ r, r < 12 → wAI w 48 (12 * j + r) = wAI w 52 r) → mR (d + 1) w 31 2 [some (vR (some (3, 0, 47))), some (vI (Int32.ofNat k))] [] Q := by
    intro f
    induction f with
    | zero =>
      intro k hk hk1 h
      have he : k = n := by omega
      subst he
      rw [e_31_2, e_31_3, e_31_4, e_31_7]
      rw [h1]
      refine ⟨fun _ => ?_, fun q => absurd q (by rw [i_lt (by omega) (by omega)]; omega)⟩
      rw [e_31_32, e_31_33, e_31_36, h1, e_31_38]
      refine ⟨fun q => ?_, fun q => ?_⟩
      · have q' : Int32.ofNat k < Int32.ofNat 100 := q
        rw [i_lt (by omega) (by omega)] at q'
        have k3 := K3 h q'
        simp (disch := omega) only [e_31_0, e_31_1, e_31_3, e_31_4, e_31_7, e_31_10, e_31_11, e_31_13, e_31_16, e_31_17, e_31_18, e_31_21, e_31_24, e_31_25, e_31_26, e_31_29, e_31_32, e_31_33, e_31_36, e_31_38, e_31_41, e_31_43, e_31_44, e_31_45, e_31_48, e_31_49, e_31_50, e_31_53, e_31_54, e_31_57, e_31_59, e_31_60, e_31_62, e_31_62J, e_31_65, e_31_66, e_31_67, e_31_70, e_31_71, e_31_72, e_31_75, e_31_76, e_31_79, e_31_80, e_31_81, i_lit, i_add, i_mul, i_m1, i_lt, i_le, i_eq, i_cl, i_in, i_ltN, i_Nlt, i_leN, i_Nle, i_eN, i_Ne, i_inN, i_l1, i_l2, mj_cpok, mj_nn, reduceCtorEq, lg_self, Nat.not_lt_zero, Nat.zero_le, Nat.reduceEqDiff, Nat.reduceLT, Nat.reduceLeDiff, true_or, or_true, false_or, or_false, not_true_eq_false, not_false_eq_true, true_imp_iff, false_imp_iff, and_self, wrd, u2, and_true, true_and, and_false, false_and, and_self, ite_true, ite_false, reduceIte, h1, g_196 G, g_192 G, i_sub, Nat.add_sub_cancel]
        (repeat' (first | (with_reducible refine And.intro ?_ ?_) | (with_reducible intro _)))
        all_goals first | omega | exact k3
      · have q' : Int32.ofNat 100 ≤ Int32.ofNat k := q
        rw [i_le (by omega) (by omega)] at q'
        rw [e_31_41, e_31_43]
        exact K2 h (by omega)
    | succ f ih =>
      intro k hk hk1 h
      rw [e_31_2]
      simp (disch := omega) only [e_31_3, e_31_4, e_31_7, e_31_10, e_31_11, e_31_13, e_31_16, e_31_17, e_31_18, i_lit, i_add, i_mul, i_m1, i_lt, i_le, i_eq, i_cl, i_in, i_ltN, i_Nlt, i_leN, i_Nle, i_eN, i_Ne, i_inN, i_l1, i_l2, mj_cpok, mj_nn, reduceCtorEq, lg_self, Nat.not_lt_zero, Nat.zero_le, Nat.reduceEqDiff, Nat.reduceLT, Nat.reduceLeDiff, true_or, or_true, false_or, or_false, not_true_eq_false, not_false_eq_true, true_imp_iff, false_imp_iff, and_self, wrd, u2, and_true, true_and, and_false, false_and, and_self, ite_true, ite_false, reduceIte, h1]
      refine ⟨fun q => by omega, fun _ => ⟨fun q => by omega, fun _ => ?_⟩⟩
      refine s_32 G (by omega) (fun he => ?_) (fun he => ?_)
      · simp (disch := omega) only [mK_v, e_31_21, e_31_24, e_31_25, i_lit, i_add, i_mul, i_m1, i_lt, i_le, i_eq, i_cl, i_in, i_ltN, i_Nlt, i_leN, i_Nle, i_eN, i_Ne, i_inN, i_l1, i_l2, mj_cpok, mj_nn, reduceCtorEq, lg_self, Nat.not_lt_zero, Nat.zero_le, Nat.reduceEqDiff, Nat.reduceLT, Nat.reduceLeDiff, true_or, or_true, false_or, or_false, not_true_eq_false, not_false_eq_true, true_imp_iff, false_imp_iff, and_self, wrd, u2, and_true, true_and, and_false, false_and, and_self, ite_true, ite_false, reduceIte]
        exact K1 k hk1 (by omega) he h
      · simp (disch := omega) only [mK_v, e_31_21, e_31_26, e_31_29, i_lit, i_add, i_mul, i_m1, i_lt, i_le, i_eq, i_cl, i_in, i_ltN, i_Nlt, i_leN, i_Nle, i_eN, i_Ne, i_inN, i_l1, i_l2, mj_cpok, mj_nn, reduceCtorEq, lg_self, Nat.not_lt_zero, Nat.zero_le, Nat.reduceEqDiff, Nat.reduceLT, Nat.reduceLeDiff, true_or, or_true, false_or, or_false, not_true_eq_false, not_false_eq_true, true_imp_iff, false_imp_iff, and_self, wrd, u2, and_true, true_and, and_false, false_and, and_self, ite_true, ite_false, reduceIte]
        refine ih (k + 1) (by omega) (by omega) (fun j hj1 hj2 => ?_)
        by_cases hjk : j = k
        · subst hjk; exact he
        · exact h j hj1 (by omega)
  rw [e_31_0, e_31_1]
  exact loop (n - 1) 1 (by omega) (by omega) (fun j h1 h2 => by omega)
theorem s_30 {nr n l : Nat} {bh : Nat → Int32} (G : Gr w) (hnr : nr ≤ 12) (hr : wFI w 385 4 = Int32.ofNat nr) (hn0 : 1 ≤ n) (hn : n ≤ 100) (h1 : wFI w 201 47 = Int32.ofNat n) (hl : l < 8) (hb : ∀ r, r < 12 → wAI w 51 r = bh r)
    (K0 : ∀ w', Fr (fun _ _ => False) (fun a => a = 52) 0 0 w w' → (∀ r, r < 12 → (if r < nr then bh r &&& wAI w (8 + 3 * r) l else Int32.ofNat 0) = Int32.ofNat 0) → Q (.inl (some (vI NN))) w')
    (K1 : ∀ w' k, Fr (fun _ _ => False) (fun a => a = 52) 0 0 w w' → (¬ ∀ r, r < 12 → (if r < nr then bh r &&& wAI w (8 + 3 * r) l else Int32.ofNat 0) = Int32.ofNat 0) → (∀ r, r < 12 → wAI w' 52 r = if r < nr then bh r &&& wAI w (8 + 3 * r) l else Int32.ofNat 0) →
      1 ≤ k → k < n → (∀ r, r < 12 → wAI w 48 (12 * k + r) = wAI w' 52 r) → (∀ j, 1 ≤ j → j < k → ¬ ∀ r, r < 12 → wAI w 48 (12 * j + r) = wAI w' 52 r) → Q (.inl (some (vI (Int32.ofNat k)))) w')
    (K2 : ∀ w', Fr (fun _ _ => False) (fun a => a = 52) 0 0 w w' → (¬ ∀ r, r < 12 → (if r < nr then bh r &&& wAI w (8 + 3 * r) l else Int32.ofNat 0) = Int32.ofNat 0) → (∀ r, r < 12 → wAI w' 52 r = if r < nr then bh r &&& wAI w (8 + 3 * r) l else Int32.ofNat 0) →
      (∀ j, 1 ≤ j → j < n → ¬ ∀ r, r < 12 → wAI w 48 (12 * j + r) = wAI w' 52 r) → n = 100 → Q (.inl (some (vI (-2)))) w')
    (K3 : ∀ w', Fr (fun _ _ => False) (fun a => a = 52) 0 0 w w' → (¬ ∀ r, r < 12 → (if r < nr then bh r &&& wAI w (8 + 3 * r) l else Int32.ofNat 0) = Int32.ofNat 0) → (∀ r, r < 12 → wAI w' 52 r = if r < nr then bh r &&& wAI w (8 + 3 * r) l else Int32.ofNat 0) →
      (∀ j, 1 ≤ j → j < n → ¬ ∀ r, r < 12 → wAI w 48 (12 * j + r) = wAI w' 52 r) → n < 100 → Q (.inl (some (vI (Int32.ofNat n)))) (sFI (cpI w' 52 0 48 (n * 12) 12) 201 47 (Int32.ofNat (n + 1)))) :
    mR (d + 2) w 30 0 [some (vR (some (3, 0, 47))), some (vR (some (6, 0, 4))), some (vI (Int32.ofNat l)), none, none, none] [] Q := by
  have loop : ∀ (f r : Nat) (y : Int32) (w' : MWd) (l5 : Option MV), r + f = 12 → Fr (fun _ _ => False) (fun a => a = 52) 0 0 w w' → (∀ q, q < r → wAI w' 52 q = if q < nr then bh q &&& wAI w (8 + 3 * q) l else Int32.ofNat 0) →
      (y = Int32.ofNat 0 ↔ ∀ q, q < r → (if q < nr then bh q &&& wAI w (8 + 3 * q) l else Int32.ofNat 0) = Int32.ofNat 0) →
      mR (d + 2) w' 30 5 [some (vR (some (3, 0, 47))), some (vR (some (6, 0, 4))), some (vI (Int32.ofNat l)), some (vI y), some (vI (Int32.ofNat r)), l5] [] Q := by
    intro f
    induction f with
    | zero =>
      intro r y w' l5 hf hF g1 g2
      have he : r = 12 := by omega
      subst he
      have G' := Fr_Gr hF G
      have a48 : wAI w' 48 = wAI w 48 := Fr_ai hF (by decide) (by decide)
      have a201 : wFI w' 201 47 = Int32.ofNat n := (Fr_fi hF (by decide) (fun q => q)).trans h1
      rw [e_30_5]
      simp (disch := omega) only [e_30_0, e_30_1, e_30_2, e_30_3, e_30_7, e_30_9, e_30_12, e_30_13, e_30_15, e_30_18, e_30_20, e_30_21, e_30_24, e_30_26, e_30_28, e_30_31, e_30_32, e_30_35, e_30_36, e_30_39, e_30_41, e_30_42, e_30_44, e_30_45, e_30_48, e_30_49, e_30_50, e_30_51, e_30_52, e_30_55, e_30_57, e_30_58, e_30_59, e_30_60, e_30_63, e_30_66, e_30_67, e_30_70, e_30_71, e_30_74, e_30_75, e_30_78, i_lit, i_add, i_mul, i_m1, i_lt, i_le, i_eq, i_cl, i_in, i_ltN, i_Nlt, i_leN, i_Nle, i_eN, i_Ne, i_inN, i_l1, i_l2, mj_cpok, mj_nn, reduceCtorEq, lg_self, Nat.not_lt_zero, Nat.zero_le, Nat.reduceEqDiff, Nat.reduceLT, Nat.reduceLeDiff, true_or, or_true, false_or, or_false, not_true_eq_false, not_false_eq_true, true_imp_iff, false_imp_iff, and_self, wrd, u2, and_true, true_and, and_false, false_and, and_self, ite_true, ite_false, reduceIte]
      refine ⟨fun hy => ?_, fun hy => ?_⟩
      · have nz : ¬ ∀ q, q < 12 → (if q < nr then bh q &&& wAI w (8 + 3 * q) l else Int32.ofNat 0) = Int32.ofNat 0 := fun q => hy (g2.mpr q)
        refine s_31 G' hn0 hn a201 (fun k b1 b2 b3 b4 => ?_) (fun b3 b4 => ?_) (fun b3 b4 => ?_)
        · simp only [mK_v, e_30_0, e_30_1, e_30_2, e_30_3, e_30_7, e_30_9, e_30_12, e_30_13, e_30_15, e_30_18, e_30_20, e_30_21, e_30_24, e_30_26, e_30_28, e_30_31, e_30_32, e_30_35, e_30_36, e_30_39, e_30_41, e_30_42, e_30_44, e_30_45, e_30_48, e_30_49, e_30_50, e_30_51, e_30_52, e_30_55, e_30_57, e_30_58, e_30_59, e_30_60, e_30_63, e_30_66, e_30_67, e_30_70, e_30_71, e_30_74, e_30_75, e_30_78]
          rw [a48] at b3 b4
          exact K1 w' k hF nz g1 b1 b2 b3 b4
        · simp only [mK_v, e_30_0, e_30_1, e_30_2, e_30_3, e_30_7, e_30_9, e_30_12, e_30_13, e_30_15, e_30_18, e_30_20, e_30_21, e_30_24, e_30_26, e_30_28, e_30_31, e_30_32, e_30_35, e_30_36, e_30_39, e_30_41, e_30_42, e_30_44, e_30_45, e_30_48, e_30_49, e_30_50, e_30_51, e_30_52, e_30_55, e_30_57, e_30_58, e_30_59, e_30_60, e_30_63, e_30_66, e_30_67, e_30_70, e_30_71, e_30_74, e_30_75, e_30_78]
          rw [a48] at b3
          exact K2 w' hF nz g1 b3 b4
        · simp only [mK_v, e_30_0, e_30_1, e_30_2, e_30_3, e_30_7, e_30_9, e_30_12, e_30_13, e_30_15, e_30_18, e_30_20, e_30_21, e_30_24, e_30_26, e_30_28, e_30_31, e_30_32, e_30_35, e_30_36, e_30_39, e_30_41, e_30_42, e_30_44, e_30_45, e_30_48, e_30_49, e_30_50, e_30_51, e_30_52, e_30_55, e_30_57, e_30_58, e_30_59, e_30_60, e_30_63, e_30_66, e_30_67, e_30_70, e_30_71, e_30_74, e_30_75, e_30_78]
          rw [a48] at b3
          exact K3 w' hF nz g1 b3 b4
      · exact K0 w' hF (g2.mp hy)
    | succ f ih =>
      intro r y w' l5 hf hF g1 g2
      have G' := Fr_Gr hF G
      have a1 : wFI w' 385 4 = Int32.ofNat nr := (Fr_fi hF (by decide) (fun q => q)).trans hr
      have a51 : wAI w' 51 r = bh r := by rw [Fr_ai hF (by decide) (by decide)]; exact hb r (by omega)
      have a8 : wAI w' (8 + 3 * r) = wAI w (8 + 3 * r) := Fr_ai hF (by omega) (by omega)
      have fin : ∀ (v : Int32) (l5 : Option MV), v = (if r < nr then bh r &&& wAI w (8 + 3 * r) l else Int32.ofNat 0) → mR (d + 2) (sAI w' 52 r v) 30 5 [some (vR (some (3, 0, 47))), some (vR (some (6, 0, 4))), some (vI (Int32.ofNat l)), some (vI (y ||| v)), some (vI (Int32.ofNat (r + 1))), l5] [] Q := by
        intro v l5 hv
        refine ih (r + 1) _ _ l5 (by omega) (Fr_sAI hF (Or.inl rfl)) (fun q hq => ?_) ?_
        · by_cases hqr : q = r
          · subst hqr; simp only [mj_cpok, mj_nn, reduceCtorEq, lg_self, Nat.not_lt_zero, Nat.zero_le, Nat.reduceEqDiff, Nat.reduceLT, Nat.reduceLeDiff, true_or, or_true, false_or, or_false, not_true_eq_false, not_false_eq_true, true_imp_iff, false_imp_iff, and_self, wrd, u2, and_true, true_and, and_false, false_and, and_self, ite_true, ite_false, reduceIte]; exact hv
          · simp only [mj_cpok, mj_nn, reduceCtorEq, lg_self, Nat.not_lt_zero, Nat.zero_le, Nat.reduceEqDiff, Nat.reduceLT, Nat.reduceLeDiff, true_or, or_true, false_or, or_false, not_true_eq_false, not_false_eq_true, true_imp_iff, false_imp_iff, and_self, wrd, u2, and_true, true_and, and_false, false_and, and_self, ite_true, ite_false, reduceIte, hqr]; exact g1 q (by omega)
        · rw [or_zero, g2]
          constructor
          · intro h q hq
            by_cases hqr : q = r
            · subst hqr; rw [← hv]; exact h.2
            · exact h.1 q (by omega)
          · intro h
            exact ⟨fun q hq => h q (by omega), hv.trans (h r (by omega))⟩
      rw [e_30_5]
      by_cases hr1 : r < nr
      · have fin1 := fin (bh r &&& wAI w (8 + 3 * r) l) (some (vR (some (5, 0, 6 + 3 * r)))) (by rw [if_pos hr1])
        simp (disch := omega) only [e_30_0, e_30_1, e_30_2, e_30_3, e_30_7, e_30_9, e_30_12, e_30_13, e_30_15, e_30_18, e_30_20, e_30_21, e_30_24, e_30_26, e_30_28, e_30_31, e_30_32, e_30_35, e_30_36, e_30_39, e_30_41, e_30_42, e_30_44, e_30_45, e_30_48, e_30_49, e_30_50, e_30_51, e_30_52, e_30_55, e_30_57, e_30_58, e_30_59, e_30_60, e_30_63, e_30_66, e_30_67, e_30_70, e_30_71, e_30_74, e_30_75, e_30_78, e_73_0, e_73_1, e_73_4, e_73_5, e_73_6, e_73_9, e_73_12, e_73_13, e_73_15, e_73_18, e_73_19, e_73_22, e_73_23, e_73_24, e_73_27, e_73_28, e_69_0, e_69_1, e_69_4, e_69_5, e_69_7, e_69_10, e_69_11, e_69_14, e_69_15, e_69_16, e_69_19, e_69_20, i_lit, i_add, i_mul, i_m1, i_lt, i_le, i_eq, i_cl, i_in, i_ltN, i_Nlt, i_leN, i_Nle, i_eN, i_Ne, i_inN, i_l1, i_l2, mj_cpok, mj_nn, reduceCtorEq, lg_self, Nat.not_lt_zero, Nat.zero_le, Nat.reduceEqDiff, Nat.reduceLT, Nat.reduceLeDiff, true_or, or_true, false_or, or_false, not_true_eq_false, not_false_eq_true, true_imp_iff, false_imp_iff, and_self, wrd, u2, and_true, true_and, and_false, false_and, and_self, ite_true, ite_false, reduceIte, mK_v, a1, a51, a8, g_384 G', g_row G' (show r < 12 by omega), g_321 G' (show r < 12 by omega), g_195 G', g_196 G']
        (repeat' (first | (with_reducible refine And.intro ?_ ?_) | (with_reducible intro _)))
        all_goals first | omega | exact fin1
      · have fin1 := fin (Int32.ofNat 0) (some (vR none)) (by rw [if_neg hr1])
        simp (disch := omega) only [e_30_0, e_30_1, e_30_2, e_30_3, e_30_7, e_30_9, e_30_12, e_30_13, e_30_15, e_30_18, e_30_20, e_30_21, e_30_24, e_30_26, e_30_28, e_30_31, e_30_32, e_30_35, e_30_36, e_30_39, e_30_41, e_30_42, e_30_44, e_30_45, e_30_48, e_30_49, e_30_50, e_30_51, e_30_52, e_30_55, e_30_57, e_30_58, e_30_59, e_30_60, e_30_63, e_30_66, e_30_67, e_30_70, e_30_71, e_30_74, e_30_75, e_30_78, e_73_0, e_73_1, e_73_4, e_73_5, e_73_6, e_73_9, e_73_12, e_73_13, e_73_15, e_73_18, e_73_19, e_73_22, e_73_23, e_73_24, e_73_27, e_73_28, e_69_0, e_69_1, e_69_4, e_69_5, e_69_7, e_69_10, e_69_11, e_69_14, e_69_15, e_69_16, e_69_19, e_69_20, i_lit, i_add, i_mul, i_m1, i_lt, i_le, i_eq, i_cl, i_in, i_ltN, i_Nlt, i_leN, i_Nle, i_eN, i_Ne, i_inN, i_l1, i_l2, mj_cpok, mj_nn, reduceCtorEq, lg_self, Nat.not_lt_zero, Nat.zero_le, Nat.reduceEqDiff, Nat.reduceLT, Nat.reduceLeDiff, true_or, or_true, false_or, or_false, not_true_eq_false, not_false_eq_true, true_imp_iff, false_imp_iff, and_self, wrd, u2, and_true, true_and, and_false, false_and, and_self, ite_true, ite_false, reduceIte, mK_v, a1, g_195 G', g_196 G']
        (repeat' (first | (with_reducible refine And.intro ?_ ?_) | (with_reducible intro _)))
        all_goals first | omega | exact fin1
  rw [e_30_0, e_30_1, e_30_2, e_30_3]
  exact loop 12 0 _ w none (by omega) Fr_refl (fun q hq => absurd hq (Nat.not_lt_zero q)) ⟨fun _ q hq => absurd hq (Nat.not_lt_zero q), fun _ => rfl⟩
end CS
