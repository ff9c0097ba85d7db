/-! scan: the class notes a token. -/
section SC
variable {d : Nat} {w : MWd} {Q : MRes → MWd → Prop}
theorem cut_top {P : Nat → Prop} : ∀ (L : Nat), (∃ k, 1 ≤ k ∧ k ≤ L ∧ P k) → ∃ k, 1 ≤ k ∧ k ≤ L ∧ P k ∧ ∀ j, k < j → j ≤ L → ¬ P j
  | 0, ⟨k, h1, h2, _⟩ => by omega
  | L + 1, ⟨k, h1, h2, h3⟩ => by
    by_cases hp : P (L + 1)
    · exact ⟨L + 1, by omega, Nat.le_refl _, hp, fun j h4 h5 => by omega⟩
    · obtain ⟨k', a1, a2, a3, a4⟩ := cut_top L ⟨k, h1, by
        by_cases hk : k = L + 1
        · subst hk; exact absurd h3 hp
        · omega, h3⟩
      refine ⟨k', a1, by omega, a3, fun j h4 h5 => ?_⟩
      by_cases hj : j = L + 1
      · subst hj; exact hp
      · exact a4 j h4 (by omega)
theorem ctT_no {r p L : Nat} {B : Nat → Nat} (h : wAI w 133 r = Int32.ofNat 0) : ctT w r B p L = L := by
  unfold ctT
  rw [if_neg (by rw [h]; decide)]
theorem ctT_le {r np tp p L : Nat} {B u : Nat → Nat} (hA : RuleA w r np tp) (hu : ∀ i, i < L → B (p + i) = 97 + u i) (hL : 1 ≤ L) (hex : wAI w 133 r = Int32.ofNat 1 → ∃ k, 1 ≤ k ∧ k ≤ L ∧ cutRw w r np L u k) : 1 ≤ ctT w r B p L ∧ ctT w r B p L ≤ L := by
  rcases hA.2.2.2.2.2.1.2 with h0 | h0
  · rw [ctT_no h0]; exact ⟨hL, Nat.le_refl _⟩
  · obtain ⟨k, a1, a2, a3, a4⟩ := cut_top L (hex h0)
    rw [ctT_eq hA h0 hu a1 a2 a3 a4]; exact ⟨a1, a2⟩
theorem s_7 {r np tp n p L c md o : Nat} {B u : Nat → Nat} (G : Gr w) (hr : r < 12) (hA : RuleA w r np tp) (hB' : RuleB w r np) (hC : RuleC w r np tp) (hn : n ≤ 1000) (h1 : wFI w 449 2 = Int32.ofNat n) (hB : ∀ i, i < n → B i < 256 ∧ wAI w 3 i = Int32.ofNat (B i)) (hL : 1 ≤ L) (hpL : p + L ≤ n)
    (hc : c ≤ 500) (ho : o ≤ 1000) (h2 : wFI w 2 57 = Int32.ofNat c) (h3 : wFI w 3 57 = Int32.ofNat md) (h4 : wFI w 4 57 = Int32.ofNat p) (h6 : wFI w 6 57 = Int32.ofNat o) (h7 : wFI w 7 57 = Int32.ofNat L) (h8 : wFI w 8 57 = Int32.ofNat r) (hu : ∀ i, i < L → ltO (B (p + i)) = some (u i))
    (hex : wAI w 133 r = Int32.ofNat 1 → ∃ k, 1 ≤ k ∧ k ≤ L ∧ cutRw w r np L u k)
    (K1 : ∀ W, wAI w 132 r = Int32.ofNat 1 → Fr (fun k a => (k = 2 ∨ k = 3 ∨ k = 4 ∨ k = 6) ∧ a = 57) (fun a => a = 58 ∨ a = 59) 0 0 w W → wFI W 2 57 = Int32.ofNat c → wFI W 3 57 = wAI w 131 r → wFI W 4 57 = Int32.ofNat (p + ctT w r B p L) → wFI W 6 57 = Int32.ofNat (o + 1) → wAI W 58 = wAI w 58 → Q (.inl (some (vI (Int32.ofNat 1)))) W)
    (K2 : ∀ W, wAI w 132 r = Int32.ofNat 0 → c < 500 → Fr (fun k a => (k = 2 ∨ k = 3 ∨ k = 4 ∨ k = 6) ∧ a = 57) (fun a => a = 58 ∨ a = 59) 0 0 w W → wFI W 2 57 = Int32.ofNat (c + 1) → wFI W 3 57 = wAI w 131 r → wFI W 4 57 = Int32.ofNat (p + ctT w r B p L) → wFI W 6 57 = Int32.ofNat o → tkE c W w (Int32.ofNat r) (Int32.ofNat p) (Int32.ofNat (ctT w r B p L)) (Int32.ofNat md) → Q (.inl (some (vI (Int32.ofNat 1)))) W)
    (K0 : ∀ W, wAI w 132 r = Int32.ofNat 0 → c = 500 → Fr (fun k a => (k = 2 ∨ k = 3 ∨ k = 4 ∨ k = 6) ∧ a = 57) (fun a => a = 58 ∨ a = 59) 0 0 w W → wFI W 2 57 = Int32.ofNat c → wFI W 3 57 = Int32.ofNat md → wFI W 4 57 = Int32.ofNat p → wFI W 6 57 = Int32.ofNat o → wAI W 58 = wAI w 58 → Q (.inl (some (vI (Int32.ofNat 0)))) W) :
    mR (d + 4) w 7 0 [some (vR (some (0, 0, 57))), some (vR (some (7, 0, 2))), some (vR (some (5, 0, 6 + 3 * r))), none] [] Q := by
  have hu9 : ∀ i, i < L → B (p + i) = 97 + u i := fun i hi => (ltO_lt (hu i hi)).2
  obtain ⟨t1, t2⟩ := ctT_le hA hu9 hL hex
  have mid : ∀ W, Fr (fun _ _ => False) (fun a => a = 59) 0 0 w W → mR (d + 4) W 7 20 [some (vR (some (0, 0, 57))), some (vR (some (7, 0, 2))), some (vR (some (5, 0, 6 + 3 * r))), none] [vI (Int32.ofNat (ctT w r B p L))] Q := by
    generalize ctT w r B p L = T at *
    intro W hF
    have G' := Fr_Gr hF G
    have a2 : wFI W 2 57 = Int32.ofNat c := (Fr_fi hF (by decide) (fun q => q)).trans h2
    have a3 : wFI W 3 57 = Int32.ofNat md := (Fr_fi hF (by decide) (fun q => q)).trans h3
    have a4 : wFI W 4 57 = Int32.ofNat p := (Fr_fi hF (by decide) (fun q => q)).trans h4
    have a6 : wFI W 6 57 = Int32.ofNat o := (Fr_fi hF (by decide) (fun q => q)).trans h6
    have a8 : wFI W 8 57 = Int32.ofNat r := (Fr_fi hF (by decide) (fun q => q)).trans h8
    have aF : ∀ k, wFI W k (6 + 3 * r) = wFI w k (6 + 3 * r) := fun k => Fr_fi hF (by omega) (fun q => q)
    have a58 : wAI W 58 = wAI w 58 := Fr_ai hF (by decide) (by decide)
    have e323 : wFI W 323 (6 + 3 * r) = wAI w 131 r := by
      obtain ⟨m, -, q1, q2⟩ := hA.2.2.2.1
      rw [aF, q1, q2]
    have e324 : wFI W 324 (6 + 3 * r) = wAI w 132 r := (aF 324).trans hA.2.2.2.2.1.1
    have hw : Fr (fun k a => (k = 2 ∨ k = 3 ∨ k = 4 ∨ k = 6) ∧ a = 57) (fun a => a = 58 ∨ a = 59) 0 0 w W := Fr_weak hF (fun k a h => h.elim) (fun a h => Or.inr h) (Nat.le_refl 0) (Nat.le_refl 0)
    rcases hA.2.2.2.2.1.2 with hz | hz
    · simp (disch := omega) only [e_7_20, e_7_21, e_7_22, e_7_25, e_7_41, e_7_42, e_7_43, e_7_46, e_7_47, i_lit, i_add, i_mul, i_m1, i_lt, i_le, i_eq, i_cl, i_in, i_ltN, i_Nlt, i_leN, i_Nle, i_eN, i_Ne, i_inN, i_l1, i_l2, mj_cpok, mj_nn, reduceCtorEq, lg_self, Nat.not_lt_zero, Nat.zero_le, Nat.reduceEqDiff, Nat.reduceLT, Nat.reduceLeDiff, true_or, or_true, false_or, or_false, not_true_eq_false, not_false_eq_true, true_imp_iff, false_imp_iff, and_self, wrd, u2, and_true, true_and, and_false, false_and, and_self, ite_true, ite_false, reduceIte, e324, hz, a8]
      refine s_8 G' hc a2 a4 a3 (fun W2 hcc hF2 g2 gF => ?_) (fun h500 => ?_)
      · have b4 : wFI W2 4 57 = Int32.ofNat p := (Fr_fi hF2 (by decide) (by omega)).trans a4
        have b6 : wFI W2 6 57 = Int32.ofNat o := (Fr_fi hF2 (by decide) (by omega)).trans a6
        have b323 : wFI W2 323 (6 + 3 * r) = wAI w 131 r := (Fr_fi hF2 (by omega) (by omega)).trans e323
        have hF3 : Fr (fun k a => (k = 2 ∨ k = 3 ∨ k = 4 ∨ k = 6) ∧ a = 57) (fun a => a = 58 ∨ a = 59) 0 0 W W2 := Fr_weak hF2 (fun k a h => ⟨Or.inl h.1, h.2⟩) (fun a h => Or.inl h) (Nat.le_refl 0) (Nat.le_refl 0)
        have k2 := K2 (sFI (sFI W2 4 57 (Int32.ofNat (p + T))) 3 57 (wAI w 131 r)) hz hcc (Fr_sFI (Fr_sFI (Fr_trans hw hF3) (by omega)) (by omega)) (by simp only [mj_cpok, mj_nn, reduceCtorEq, lg_self, Nat.not_lt_zero, Nat.zero_le, Nat.reduceEqDiff, Nat.reduceLT, Nat.reduceLeDiff, true_or, or_true, false_or, or_false, not_true_eq_false, not_false_eq_true, true_imp_iff, false_imp_iff, and_self, wrd, u2, and_true, true_and, and_false, false_and, and_self, ite_true, ite_false, reduceIte]; exact g2) (by simp only [mj_cpok, mj_nn, reduceCtorEq, lg_self, Nat.not_lt_zero, Nat.zero_le, Nat.reduceEqDiff, Nat.reduceLT, Nat.reduceLeDiff, true_or, or_true, false_or, or_false, not_true_eq_false, not_false_eq_true, true_imp_iff, false_imp_iff, and_self, wrd, u2, and_true, true_and, and_false, false_and, and_self, ite_true, ite_false, reduceIte]) (by simp only [mj_cpok, mj_nn, reduceCtorEq, lg_self, Nat.not_lt_zero, Nat.zero_le, Nat.reduceEqDiff, Nat.reduceLT, Nat.reduceLeDiff, true_or, or_true, false_or, or_false, not_true_eq_false, not_false_eq_true, true_imp_iff, false_imp_iff, and_self, wrd, u2, and_true, true_and, and_false, false_and, and_self, ite_true, ite_false, reduceIte]) (by simp only [mj_cpok, mj_nn, reduceCtorEq, lg_self, Nat.not_lt_zero, Nat.zero_le, Nat.reduceEqDiff, Nat.reduceLT, Nat.reduceLeDiff, true_or, or_true, false_or, or_false, not_true_eq_false, not_false_eq_true, true_imp_iff, false_imp_iff, and_self, wrd, u2, and_true, true_and, and_false, false_and, and_self, ite_true, ite_false, reduceIte]; exact b6) (fun F hF4 i hi => by simp only [mj_cpok, mj_nn, reduceCtorEq, lg_self, Nat.not_lt_zero, Nat.zero_le, Nat.reduceEqDiff, Nat.reduceLT, Nat.reduceLeDiff, true_or, or_true, false_or, or_false, not_true_eq_false, not_false_eq_true, true_imp_iff, false_imp_iff, and_self, wrd, u2, and_true, true_and, and_false, false_and, and_self, ite_true, ite_false, reduceIte]; exact gF F (by rw [a58]; exact hF4) i hi)
        simp (disch := omega) only [mK_v, e_7_50, e_7_55, e_7_56, e_7_57, e_7_60, e_7_61, e_7_62, e_7_65, e_7_66, e_7_67, e_7_70, e_7_73, e_7_74, i_lit, i_add, i_mul, i_m1, i_lt, i_le, i_eq, i_cl, i_in, i_ltN, i_Nlt, i_leN, i_Nle, i_eN, i_Ne, i_inN, i_l1, i_l2, mj_cpok, mj_nn, reduceCtorEq, lg_self, Nat.not_lt_zero, Nat.zero_le, Nat.reduceEqDiff, Nat.reduceLT, Nat.reduceLeDiff, true_or, or_true, false_or, or_false, not_true_eq_false, not_false_eq_true, true_imp_iff, false_imp_iff, and_self, wrd, u2, and_true, true_and, and_false, false_and, and_self, ite_true, ite_false, reduceIte, b4, b323]
        (repeat' (first | (with_reducible refine And.intro ?_ ?_) | (with_reducible intro _)))
        all_goals first | omega | exact k2
      · have k0 := K0 W hz h500 hw a2 a3 a4 a6 a58
        simp (disch := omega) only [mK_v, e_7_50, e_7_53, e_7_54, i_lit, i_add, i_mul, i_m1, i_lt, i_le, i_eq, i_cl, i_in, i_ltN, i_Nlt, i_leN, i_Nle, i_eN, i_Ne, i_inN, i_l1, i_l2, mj_cpok, mj_nn, reduceCtorEq, lg_self, Nat.not_lt_zero, Nat.zero_le, Nat.reduceEqDiff, Nat.reduceLT, Nat.reduceLeDiff, true_or, or_true, false_or, or_false, not_true_eq_false, not_false_eq_true, true_imp_iff, false_imp_iff, and_self, wrd, u2, and_true, true_and, and_false, false_and, and_self, ite_true, ite_false, reduceIte]
        (repeat' (first | (with_reducible refine And.intro ?_ ?_) | (with_reducible intro _)))
        all_goals first | omega | exact k0
    · have k1 := K1 (sFI (sFI (sFI W 6 57 (Int32.ofNat (o + 1))) 4 57 (Int32.ofNat (p + T))) 3 57 (wAI w 131 r)) hz (Fr_sFI (Fr_sFI (Fr_sFI hw (by omega)) (by omega)) (by omega)) (by simp only [mj_cpok, mj_nn, reduceCtorEq, lg_self, Nat.not_lt_zero, Nat.zero_le, Nat.reduceEqDiff, Nat.reduceLT, Nat.reduceLeDiff, true_or, or_true, false_or, or_false, not_true_eq_false, not_false_eq_true, true_imp_iff, false_imp_iff, and_self, wrd, u2, and_true, true_and, and_false, false_and, and_self, ite_true, ite_false, reduceIte]; exact a2) (by simp only [mj_cpok, mj_nn, reduceCtorEq, lg_self, Nat.not_lt_zero, Nat.zero_le, Nat.reduceEqDiff, Nat.reduceLT, Nat.reduceLeDiff, true_or, or_true, false_or, or_false, not_true_eq_false, not_false_eq_true, true_imp_iff, false_imp_iff, and_self, wrd, u2, and_true, true_and, and_false, false_and, and_self, ite_true, ite_false, reduceIte]) (by simp only [mj_cpok, mj_nn, reduceCtorEq, lg_self, Nat.not_lt_zero, Nat.zero_le, Nat.reduceEqDiff, Nat.reduceLT, Nat.reduceLeDiff, true_or, or_true, false_or, or_false, not_true_eq_false, not_false_eq_true, true_imp_iff, false_imp_iff, and_self, wrd, u2, and_true, true_and, and_false, false_and, and_self, ite_true, ite_false, reduceIte]) (by simp only [mj_cpok, mj_nn, reduceCtorEq, lg_self, Nat.not_lt_zero, Nat.zero_le, Nat.reduceEqDiff, Nat.reduceLT, Nat.reduceLeDiff, true_or, or_true, false_or, or_false, not_true_eq_false, not_false_eq_true, true_imp_iff, false_imp_iff, and_self, wrd, u2, and_true, true_and, and_false, false_and, and_self, ite_true, ite_false, reduceIte]) (by simp only [mj_cpok, mj_nn, reduceCtorEq, lg_self, Nat.not_lt_zero, Nat.zero_le, Nat.reduceEqDiff, Nat.reduceLT, Nat.reduceLeDiff, true_or, or_true, false_or, or_false, not_true_eq_false, not_false_eq_true, true_imp_iff, false_imp_iff, and_self, wrd, u2, and_true, true_and, and_false, false_and, and_self, ite_true, ite_false, reduceIte]; exact a58)
      simp (disch := omega) only [e_7_20, e_7_21, e_7_22, e_7_25, e_7_28, e_7_29, e_7_30, e_7_33, e_7_34, e_7_35, e_7_38, e_7_55, e_7_56, e_7_57, e_7_60, e_7_61, e_7_62, e_7_65, e_7_66, e_7_67, e_7_70, e_7_73, e_7_74, i_lit, i_add, i_mul, i_m1, i_lt, i_le, i_eq, i_cl, i_in, i_ltN, i_Nlt, i_leN, i_Nle, i_eN, i_Ne, i_inN, i_l1, i_l2, mj_cpok, mj_nn, reduceCtorEq, lg_self, Nat.not_lt_zero, Nat.zero_le, Nat.reduceEqDiff, Nat.reduceLT, Nat.reduceLeDiff, true_or, or_true, false_or, or_false, not_true_eq_false, not_false_eq_true, true_imp_iff, false_imp_iff, and_self, wrd, u2, and_true, true_and, and_false, false_and, and_self, ite_true, ite_false, reduceIte, e324, hz, a6, a4, e323]
      (repeat' (first | (with_reducible refine And.intro ?_ ?_) | (with_reducible intro _)))
      all_goals first | omega | exact k1 | (rename_i q; exact absurd q (by decide))
  rcases hA.2.2.2.2.2.1.2 with h0 | h0
  · have m0 := mid w Fr_refl
    rw [ctT_no h0] at m0
    have e325 : wFI w 325 (6 + 3 * r) = Int32.ofNat 0 := hA.2.2.2.2.2.1.1.trans h0
    simp (disch := omega) only [e_7_0, e_7_1, e_7_4, e_7_16, e_7_17, i_lit, i_add, i_mul, i_m1, i_lt, i_le, i_eq, i_cl, i_in, i_ltN, i_Nlt, i_leN, i_Nle, i_eN, i_Ne, i_inN, i_l1, i_l2, mj_cpok, mj_nn, reduceCtorEq, lg_self, Nat.not_lt_zero, Nat.zero_le, Nat.reduceEqDiff, Nat.reduceLT, Nat.reduceLeDiff, true_or, or_true, false_or, or_false, not_true_eq_false, not_false_eq_true, true_imp_iff, false_imp_iff, and_self, wrd, u2, and_true, true_and, and_false, false_and, and_self, ite_true, ite_false, reduceIte, e325, h7]
    (repeat' (first | (with_reducible refine And.intro ?_ ?_) | (with_reducible intro _)))
    all_goals first | omega | exact m0
  · obtain ⟨k, a1, a2, a3, a4⟩ := cut_top L (hex h0)
    have hok := cutOk_of hA hB' hC h0
    have hk := ctT_eq hA h0 hu9 a1 a2 a3 a4
    have e325 : wFI w 325 (6 + 3 * r) = Int32.ofNat 1 := hA.2.2.2.2.2.1.1.trans h0
    simp (disch := omega) only [e_7_0, e_7_1, e_7_4, e_7_7, e_7_8, e_7_9, e_7_10, i_lit, i_add, i_mul, i_m1, i_lt, i_le, i_eq, i_cl, i_in, i_ltN, i_Nlt, i_leN, i_Nle, i_eN, i_Ne, i_inN, i_l1, i_l2, mj_cpok, mj_nn, reduceCtorEq, lg_self, Nat.not_lt_zero, Nat.zero_le, Nat.reduceEqDiff, Nat.reduceLT, Nat.reduceLeDiff, true_or, or_true, false_or, or_false, not_true_eq_false, not_false_eq_true, true_imp_iff, false_imp_iff, and_self, wrd, u2, and_true, true_and, and_false, false_and, and_self, ite_true, ite_false, reduceIte, e325]
    (repeat' (first | (with_reducible refine And.intro ?_ ?_) | (with_reducible intro _)))
    all_goals try omega
    all_goals first | (rename_i q; exact absurd q (by decide)) | skip
    refine s_9 G hr hA hB' hC h0 hn h1 hB hL hpL h4 h7 hu (fun W k' hF b1 b2 b3 => ?_)
    have hkk : k' = k := by
      rcases b3 with ⟨c1, c2⟩ | ⟨c1, c2⟩
      · rcases Nat.lt_trichotomy k' k with h9 | h9 | h9
        · exact absurd ((cut_iff hok a1 a2).mpr a3) (c2 k h9 a2)
        · exact h9
        · exact absurd ((cut_iff hok b1 b2).mp c1) (a4 k' h9 b2)
      · exact absurd ((cut_iff hok a1 a2).mpr a3) (c2 k a1 a2)
    have m0 := mid W hF
    rw [hk, ← hkk] at m0
    rw [mK_v, e_7_13]
    exact m0
end SC
