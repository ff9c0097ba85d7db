/-! scan: tokenLength. -/
abbrev cutCw (w : MWd) (r np tp L : Nat) (u : Nat → Nat) : Nat → Prop := cutC u L tp (rFi w r) (rLa w r) (rAF w r) (rAL w r) (rUs w r) (rFo w r np) (rLt w r np) (rCE w r)
abbrev cutRw (w : MWd) (r np L : Nat) (u : Nat → Nat) : Nat → Prop := cutR u L (rFi w r) (rLa w r) (rAF w r) (rAL w r) (rFo w r np) (rLt w r np) (rCE w r)
section SC
variable {d : Nat} {w : MWd} {Q : MRes → MWd → Prop}
theorem s_9 {r np tp n p L : Nat} {B u : Nat → Nat} (G : Gr w) (hr : r < 12) (hA : RuleA w r np tp) (hB' : RuleB w r np) (hC : RuleC w r np tp) (hl1 : wAI w 133 r = Int32.ofNat 1) (hn : n ≤ 1000) (h1 : wFI w 449 2 = Int32.ofNat n) (hB : ∀ i, i < n → B i < 256 ∧ wAI w 3 i = Int32.ofNat (B i)) (hL : 1 ≤ L) (hpL : p + L ≤ n) (h4 : wFI w 4 57 = Int32.ofNat p) (h7 : wFI w 7 57 = Int32.ofNat L) (hu : ∀ i, i < L → ltO (B (p + i)) = some (u i))
    (K : ∀ W k, Fr (fun _ _ => False) (fun a => a = 59) 0 0 w W → 1 ≤ k → k ≤ L → ((cutCw w r np tp L u k ∧ ∀ j, k < j → j ≤ L → ¬ cutCw w r np tp L u j) ∨ (k = L ∧ ∀ j, 1 ≤ j → j ≤ L → ¬ cutCw w r np tp L u j)) → Q (.inl (some (vI (Int32.ofNat k)))) W) :
    mR (d + 3) w 9 0 [some (vR (some (0, 0, 57))), some (vR (some (7, 0, 2))), some (vR (some (5, 0, 6 + 3 * r))), none, none] [] Q := by
  have hu8 : ∀ i, i < L → u i < 8 := fun i hi => (ltO_lt (hu i hi)).1
  have e327 : ∀ p, p < 32 → bt (wFI w 327 (6 + 3 * r)) p = decide (p < tp) := hA.2.2.2.2.2.2.2.2.1
  have hnp := hA.1
  have elk := hB'.2.1 hl1
  have hlast : ∀ p, bt (wFI w 329 (6 + 3 * r)) p = true ↔ laC (rLa w r) (rAL w r) (rCE w r) p := by
    intro p
    have e330 : wFI w 330 (6 + 3 * r) = wAI w 138 r := hA.2.2.2.2.2.2.2.2.2.2.1
    unfold laC rAL rLa rCE
    rw [e330]
    constructor
    · intro h
      have hp := bt_lt h
      rw [hB'.1 p hp, if_pos hl1] at h
      simp only [Bool.and_eq_true, Bool.or_eq_true, decide_eq_true_eq] at h
      rcases h with h | h
      · exact Or.inl ⟨hp, h⟩
      · exact Or.inr h
    · intro h
      have hp : p < 32 := by
        rcases h with h | h
        · exact h.1
        · exact bt_lt h.2
      rw [hB'.1 p hp, if_pos hl1]
      simp only [Bool.and_eq_true, Bool.or_eq_true, decide_eq_true_eq]
      rcases h with h | h
      · exact Or.inl h.2
      · exact Or.inr h
  rw [e_9_0, e_9_1, e_9_2, e_9_3]
  refine s_10 G hr hn h1 hB hL hpL h4 h7 hu (fun W hF hE => ?_)
  have G' := Fr_Gr hF G
  have a7 : wFI W 7 57 = Int32.ofNat L := (Fr_fi hF (by decide) (fun q => q)).trans h7
  have a4 : wFI W 4 57 = Int32.ofNat p := (Fr_fi hF (by decide) (fun q => q)).trans h4
  have a449 : wFI W 449 2 = Int32.ofNat n := (Fr_fi hF (by decide) (fun q => q)).trans h1
  have aF : ∀ k, wFI W k (6 + 3 * r) = wFI w k (6 + 3 * r) := fun k => Fr_fi hF (by omega) (fun q => q)
  have a8 : wAI W (8 + 3 * r) = wAI w (8 + 3 * r) := Fr_ai hF (by omega) (by omega)
  have a7' : wAI W (7 + 3 * r) = wAI w (7 + 3 * r) := Fr_ai hF (by omega) (by omega)
  have hends : ∀ k, 1 ≤ k → k ≤ L → (¬ wAI W 59 k = Int32.ofNat 0 ↔ ∃ p, cM u tp (rFi w r) (rLa w r) (rAF w r) (rUs w r) (rFo w r np) (rLt w r np) (k - 1) p ∧ rLa w r p) := by
    intro k hk1 hk2
    rw [(hE k hk1 hk2).2, and_ne]
    constructor
    · rintro ⟨p, h1, h2⟩; exact ⟨p, (cI_iff hA hB' hC hu8 (k - 1) p (by omega)).mp h1, h2⟩
    · rintro ⟨p, h1, h2⟩; exact ⟨p, (cI_iff hA hB' hC hu8 (k - 1) p (by omega)).mpr h1, h2⟩
  have loop : ∀ (k : Nat) (Y : Int32), k + 1 ≤ L → (1 ≤ k → ∀ p, bt (Y &&& wAI w (8 + 3 * r) (u k)) p = true ↔ bC u L tp (rLa w r) (rAF w r) (rAL w r) (rUs w r) (rFo w r np) (rLt w r np) (rCE w r) (L - 1 - k) p) → (∀ j, k < j → j ≤ L → ¬ cutCw w r np tp L u j) →
      mR (d + 3) W 9 49 [some (vR (some (0, 0, 57))), some (vR (some (7, 0, 2))), some (vR (some (5, 0, 6 + 3 * r))), some (vI Y), some (vI (Int32.ofNat k))] [] Q := by
    intro k
    induction k with
    | zero =>
      intro Y hk hY hno
      rw [e_9_49]
      simp (disch := omega) only [e_9_51, e_9_111, e_9_112, e_9_115, i_lit, i_add, i_mul, i_m1, i_lt, i_le, i_eq, i_cl, i_in, i_ltN, i_Nlt, i_leN, i_Nle, i_eN, i_Ne, i_inN, i_l1, i_l2, mj_cpok, mj_nn, reduceCtorEq, lg_self, Nat.not_lt_zero, Nat.zero_le, Nat.reduceEqDiff, Nat.reduceLT, Nat.reduceLeDiff, true_or, or_true, false_or, or_false, not_true_eq_false, not_false_eq_true, true_imp_iff, false_imp_iff, and_self, wrd, u2, and_true, true_and, and_false, false_and, and_self, ite_true, ite_false, reduceIte, a7]
      (repeat' (first | (with_reducible refine And.intro ?_ ?_) | (with_reducible intro _)))
      all_goals try omega
      exact K W L hF hL (Nat.le_refl L) (Or.inr ⟨rfl, fun j h1 h2 => hno j (by omega) h2⟩)
    | succ k ih =>
      intro Y hk hY hno
      have aB : B (p + (k + 1)) < 256 ∧ wAI W 3 (p + (k + 1)) = Int32.ofNat (B (p + (k + 1))) := by
        rw [Fr_ai hF (by decide) (by decide)]; exact hB _ (by omega)
      have hul := hu (k + 1) (by omega)
      have hu9 := hu8 (k + 1) (by omega)
      have hYk := hY (by omega)
      have hek := hends (k + 1) (by omega) (by omega)
      have hb01 := (hE (k + 1) (by omega) (by omega)).1
      rw [e_9_49]
      simp (disch := omega) only [e_9_51, e_9_54, e_9_55, e_9_56, e_9_57, e_9_58, e_9_61, e_9_63, e_9_64, i_lit, i_add, i_mul, i_m1, i_lt, i_le, i_eq, i_cl, i_in, i_ltN, i_Nlt, i_leN, i_Nle, i_eN, i_Ne, i_inN, i_l1, i_l2, mj_cpok, mj_nn, reduceCtorEq, lg_self, Nat.not_lt_zero, Nat.zero_le, Nat.reduceEqDiff, Nat.reduceLT, Nat.reduceLeDiff, true_or, or_true, false_or, or_false, not_true_eq_false, not_false_eq_true, true_imp_iff, false_imp_iff, and_self, wrd, u2, and_true, true_and, and_false, false_and, and_self, ite_true, ite_false, reduceIte, a4]
      (repeat' (first | (with_reducible refine And.intro ?_ ?_) | (with_reducible intro _)))
      all_goals try omega
      refine s_80 G' hn a449 (by omega) aB ?_
      rw [hul]
      show (mK _ _ _ _ _ _ _ (.inl (some (vI (Int32.ofNat (u (k + 1)))))) W)
      generalize hZ : Y &&& wAI w (8 + 3 * r) (u (k + 1)) = Z at hYk
      -- one length less
      have cont : ¬ cutCw w r np tp L u (k + 1) → mR (d + 3) W 9 93 [some (vR (some (0, 0, 57))), some (vR (some (7, 0, 2))), some (vR (some (5, 0, 6 + 3 * r))), some (vI Z), some (vI (Int32.ofNat (k + 1)))] [] Q := by
        intro hnc
        simp (disch := omega) only [e_9_93, e_9_94, e_9_95, e_9_96, e_9_99, e_9_100, e_9_101, i_lit, i_add, i_mul, i_m1, i_lt, i_le, i_eq, i_cl, i_in, i_ltN, i_Nlt, i_leN, i_Nle, i_eN, i_Ne, i_inN, i_l1, i_l2, mj_cpok, mj_nn, reduceCtorEq, lg_self, Nat.not_lt_zero, Nat.zero_le, Nat.reduceEqDiff, Nat.reduceLT, Nat.reduceLeDiff, true_or, or_true, false_or, or_false, not_true_eq_false, not_false_eq_true, true_imp_iff, false_imp_iff, and_self, wrd, u2, and_true, true_and, and_false, false_and, and_self, ite_true, ite_false, reduceIte, aF]
        refine s_67 G' hr (fun y hy => ?_)
        simp (disch := omega) only [mK_v, e_9_104, e_9_105, e_9_108, i_lit, i_add, i_mul, i_m1, i_lt, i_le, i_eq, i_cl, i_in, i_ltN, i_Nlt, i_leN, i_Nle, i_eN, i_Ne, i_inN, i_l1, i_l2, mj_cpok, mj_nn, reduceCtorEq, lg_self, Nat.not_lt_zero, Nat.zero_le, Nat.reduceEqDiff, Nat.reduceLT, Nat.reduceLeDiff, true_or, or_true, false_or, or_false, not_true_eq_false, not_false_eq_true, true_imp_iff, false_imp_iff, and_self, wrd, u2, and_true, true_and, and_false, false_and, and_self, ite_true, ite_false, reduceIte]
        have hdec : Int32.ofNat (k + 1) + NN = Int32.ofNat k := pd_dec (k + 1)
        rw [hdec]
        refine ih y (by omega) (fun hk1 q => ?_) (fun j hj1 hj2 => ?_)
        · rw [bt_and, Bool.and_eq_true, pl_iff hB' hnp (hu8 k (by omega)), hy q]
          rw [show L - 1 - k = (L - 1 - (k + 1)) + 1 by omega]
          unfold bC
          rw [show L - 2 - (L - 1 - (k + 1)) = k by omega]
          refine and_congr_left fun hpl => ?_
          have hq30 : q < 30 := by have := hpl.1.2.1; omega
          constructor
          · rintro ⟨-, h2, t, h3, h4⟩
            rw [bt_not _ (by omega), e327 q (by omega)] at h2
            simp only [Bool.not_eq_true', decide_eq_false_iff_not] at h2
            rw [a7'] at h3
            exact ⟨by omega, t, (fc_iff hA hB' hC hq30).mp h3, (hYk t).mp h4⟩
          · rintro ⟨h2, t, h3, h4⟩
            refine ⟨hq30, ?_, t, ?_, (hYk t).mpr h4⟩
            · rw [bt_not _ (by omega), e327 q (by omega)]
              simp only [Bool.not_eq_true', decide_eq_false_iff_not]; omega
            · rw [a7']; exact (fc_iff hA hB' hC hq30).mpr h3
        · by_cases hjk : j = k + 1
          · subst hjk; exact hnc
          · exact hno j (by omega) hj2
      simp (disch := omega) only [mK_v, e_9_67, e_69_0, e_69_1, e_69_4, e_69_5, e_69_7, e_69_10, e_69_11, e_69_14, e_69_15, e_69_16, e_69_19, e_69_20, e_9_70, e_9_71, e_9_72, e_9_73, e_9_75, e_11_0, e_11_1, e_11_4, e_11_5, e_11_8, e_11_11, e_11_12, e_11_15, e_11_16, e_11_17, e_11_20, e_11_21, e_11_24, e_11_25, i_lit, i_add, i_mul, i_m1, i_lt, i_le, i_eq, i_cl, i_in, i_ltN, i_Nlt, i_leN, i_Nle, i_eN, i_Ne, i_inN, i_l1, i_l2, mj_cpok, mj_nn, reduceCtorEq, lg_self, Nat.not_lt_zero, Nat.zero_le, Nat.reduceEqDiff, Nat.reduceLT, Nat.reduceLeDiff, true_or, or_true, false_or, or_false, not_true_eq_false, not_false_eq_true, true_imp_iff, false_imp_iff, and_self, wrd, u2, and_true, true_and, and_false, false_and, and_self, ite_true, ite_false, reduceIte, g_321 G' hr, g_1 G', a8]
      rw [hZ]
      (repeat' (first | (with_reducible refine And.intro ?_ ?_) | (with_reducible intro _)))
      all_goals try omega
      · -- no end here
        rename_i hz
        simp (disch := omega) only [e_9_78, i_lit, i_add, i_mul, i_m1, i_lt, i_le, i_eq, i_cl, i_in, i_ltN, i_Nlt, i_leN, i_Nle, i_eN, i_Ne, i_inN, i_l1, i_l2, mj_cpok, mj_nn, reduceCtorEq, lg_self, Nat.not_lt_zero, Nat.zero_le, Nat.reduceEqDiff, Nat.reduceLT, Nat.reduceLeDiff, true_or, or_true, false_or, or_false, not_true_eq_false, not_false_eq_true, true_imp_iff, false_imp_iff, and_self, wrd, u2, and_true, true_and, and_false, false_and, and_self, ite_true, ite_false, reduceIte]
        exact cont fun hc => by
          have := hek.mpr hc.1
          exact this hz
      · rename_i hz
        simp (disch := omega) only [e_9_78, e_9_81, e_9_82, e_9_83, e_9_86, e_9_87, i_lit, i_add, i_mul, i_m1, i_lt, i_le, i_eq, i_cl, i_in, i_ltN, i_Nlt, i_leN, i_Nle, i_eN, i_Ne, i_inN, i_l1, i_l2, mj_cpok, mj_nn, reduceCtorEq, lg_self, Nat.not_lt_zero, Nat.zero_le, Nat.reduceEqDiff, Nat.reduceLT, Nat.reduceLeDiff, true_or, or_true, false_or, or_false, not_true_eq_false, not_false_eq_true, true_imp_iff, false_imp_iff, and_self, wrd, u2, and_true, true_and, and_false, false_and, and_self, ite_true, ite_false, reduceIte, aF, elk.1]
        (repeat' (first | (with_reducible refine And.intro ?_ ?_) | (with_reducible intro _)))
        all_goals try omega
        · rename_i hz2
          exact cont fun hc => by
            obtain ⟨q, h1, h2⟩ := hc.2.2 (by omega)
            exact and_ne.mpr ⟨q, (hYk q).mpr h1, h2.2⟩ hz2
        · rename_i hz2
          rw [e_9_90, e_9_92]
          refine K W (k + 1) hF (by omega) (by omega) (Or.inl ⟨⟨hek.mp hz, fun q => by omega, fun _ => ?_⟩, hno⟩)
          obtain ⟨q, h1, h2⟩ := and_ne.mp hz2
          exact ⟨q, (hYk q).mp h1, bt_lt h2, h2⟩
  have start : ¬ cutCw w r np tp L u L → mR (d + 3) W 9 29 [some (vR (some (0, 0, 57))), some (vR (some (7, 0, 2))), some (vR (some (5, 0, 6 + 3 * r))), none, none] [] Q := by
    intro hnc
    have hsub : Int32.ofNat L - Int32.ofNat 1 = Int32.ofNat (L - 1) := i_sub hL
    simp (disch := omega) only [e_9_29, e_9_30, e_9_33, e_9_34, e_9_37, e_9_38, e_9_39, e_9_40, e_9_41, e_9_42, e_9_45, e_9_46, e_9_47, i_lit, i_add, i_mul, i_m1, i_lt, i_le, i_eq, i_cl, i_in, i_ltN, i_Nlt, i_leN, i_Nle, i_eN, i_Ne, i_inN, i_l1, i_l2, mj_cpok, mj_nn, reduceCtorEq, lg_self, Nat.not_lt_zero, Nat.zero_le, Nat.reduceEqDiff, Nat.reduceLT, Nat.reduceLeDiff, true_or, or_true, false_or, or_false, not_true_eq_false, not_false_eq_true, true_imp_iff, false_imp_iff, and_self, wrd, u2, and_true, true_and, and_false, false_and, and_self, ite_true, ite_false, reduceIte, a7, aF, hsub]
    refine loop (L - 1) _ (by omega) (fun hk1 q => ?_) (fun j h1 h2 => ?_)
    · rw [bt_and, Bool.and_eq_true, pl_iff hB' hnp (hu8 (L - 1) (by omega)), bt_and, Bool.and_eq_true, hlast, show L - 1 - (L - 1) = 0 by omega]
      unfold bC
      refine and_congr_left fun hpl => and_congr_right fun _ => ?_
      have hq := hpl.1.2.1
      rw [bt_not _ (by omega), e327 q (by omega)]
      simp only [Bool.not_eq_true', decide_eq_false_iff_not]
      omega
    · have hj : j = L := by omega
      subst hj; exact hnc
  have heL := hends L hL (Nat.le_refl L)
  simp (disch := omega) only [mK_n, e_9_6, e_9_7, e_9_10, i_lit, i_add, i_mul, i_m1, i_lt, i_le, i_eq, i_cl, i_in, i_ltN, i_Nlt, i_leN, i_Nle, i_eN, i_Ne, i_inN, i_l1, i_l2, mj_cpok, mj_nn, reduceCtorEq, lg_self, Nat.not_lt_zero, Nat.zero_le, Nat.reduceEqDiff, Nat.reduceLT, Nat.reduceLeDiff, true_or, or_true, false_or, or_false, not_true_eq_false, not_false_eq_true, true_imp_iff, false_imp_iff, and_self, wrd, u2, and_true, true_and, and_false, false_and, and_self, ite_true, ite_false, reduceIte, aF, elk.2]
  refine ⟨fun hz => start fun hc => ?_, fun hz => ?_⟩
  · have h9 : wAI w 141 r = Int32.ofNat 1 := hc.2.1 rfl
    rw [h9] at hz; exact absurd hz (by decide)
  · have hce : rCE w r := by
      rcases hB'.2.2.1 with h9 | h9
      · exact absurd h9 hz
      · exact h9
    simp (disch := omega) only [e_9_13, e_9_14, e_9_15, e_9_18, e_11_0, e_11_1, e_11_4, e_11_5, e_11_8, e_11_11, e_11_12, e_11_15, e_11_16, e_11_17, e_11_20, e_11_21, e_11_24, e_11_25, i_lit, i_add, i_mul, i_m1, i_lt, i_le, i_eq, i_cl, i_in, i_ltN, i_Nlt, i_leN, i_Nle, i_eN, i_Ne, i_inN, i_l1, i_l2, mj_cpok, mj_nn, reduceCtorEq, lg_self, Nat.not_lt_zero, Nat.zero_le, Nat.reduceEqDiff, Nat.reduceLT, Nat.reduceLeDiff, true_or, or_true, false_or, or_false, not_true_eq_false, not_false_eq_true, true_imp_iff, false_imp_iff, and_self, wrd, u2, and_true, true_and, and_false, false_and, and_self, ite_true, ite_false, reduceIte, mK_v, a7, g_1 G', e_9_21, e_9_24, e_9_25, e_9_28]
    (repeat' (first | (with_reducible refine And.intro ?_ ?_) | (with_reducible intro _)))
    all_goals try omega
    · rename_i hz2
      exact start fun hc => heL.mpr hc.1 hz2
    · rename_i hz2
      exact K W L hF hL (Nat.le_refl L) (Or.inl ⟨⟨heL.mp hz2, fun _ => hce, fun q => by omega⟩, fun j h1 h2 => by omega⟩)
end SC
