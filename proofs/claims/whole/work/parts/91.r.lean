/-! addRule: the reference's reader, links, places, atoms. -/
section RF
variable {d : Nat} {W : MWd} {n i r np dep : Nat} {B : Nat → Nat} {fo lt : Nat → Int32} {Q : MRes → MWd → Prop}
theorem r_120 {l f : Int32} (G : Gr W) (hr : r < 12) (h1 : wFI W 644 128 = Int32.ofNat r) (K : ∀ V, Fr (fun _ _ => False) (fun a => a = 136) 0 0 W V → (∀ j, j < 30 * r → wAI V 136 j = wAI W 136 j) → (∀ p, p < 30 → wAI V 136 (30 * r + p) = lkF (fun p => wAI W 136 (30 * r + p)) l f p) → Q (.inl none) V) :
    mR d W 120 0 [some (vR (some (10, 0, 128))), some (vI l), some (vI f), none] [] Q := by
  have loop : ∀ (g k : Nat) (V : MWd), k + g = 30 → Fr (fun _ _ => False) (fun a => a = 136) 0 0 W V → (∀ j, j < 30 * r → wAI V 136 j = wAI W 136 j) → (∀ p, p < 30 → wAI V 136 (30 * r + p) = if p < k then lkF (fun p => wAI W 136 (30 * r + p)) l f p else wAI W 136 (30 * r + p)) →
      mR d V 120 2 [some (vR (some (10, 0, 128))), some (vI l), some (vI f), some (vI (Int32.ofNat k))] [] Q := by
    intro g
    induction g with
    | zero =>
      intro k V hk hF hj hV
      have e : k = 30 := by omega
      subst e
      have k0 := K V hF hj (fun p hp => by rw [hV p hp, if_pos hp])
      rw [e_120_2]
      simp (disch := omega) only [e_120_3, e_120_5, e_120_41, i_lit, i_add, i_mul, i_m1, i_lt, i_le, i_eq, i_cl, i_in, i_ltN, i_Nlt, i_leN, i_Nle, i_eN, i_Ne, i_inN, i_l1, i_l2, mj_cpok, mj_nn, reduceCtorEq, lg_self, Nat.not_lt_zero, Nat.zero_le, Nat.reduceEqDiff, Nat.reduceLT, Nat.reduceLeDiff, true_or, or_true, false_or, or_false, not_true_eq_false, not_false_eq_true, true_imp_iff, false_imp_iff, and_self, wrd, u2, and_true, true_and, and_false, false_and, and_self, ite_true, ite_false, reduceIte]
      (repeat' (first | (with_reducible refine And.intro ?_ ?_) | (with_reducible intro _)))
      all_goals first | omega | exact k0
    | succ g ih =>
      intro k V hk hF hj hV
      have G' := Fr_Gr hF G
      have e644 : wFI V 644 128 = Int32.ofNat r := (Fr_fi hF (by decide) (fun q => q)).trans h1
      rw [e_120_2]
      by_cases c : bt l k = true
      · have nn := ih (k + 1) (sAI V 136 (30 * r + k) (wAI V 136 (30 * r + k) ||| f)) (by omega) (Fr_sAI hF (Or.inl rfl)) (fun j hj' => by
          have hne : ¬ j = 30 * r + k := by omega
          simp only [mj_cpok, mj_nn, reduceCtorEq, lg_self, Nat.not_lt_zero, Nat.zero_le, Nat.reduceEqDiff, Nat.reduceLT, Nat.reduceLeDiff, true_or, or_true, false_or, or_false, not_true_eq_false, not_false_eq_true, true_imp_iff, false_imp_iff, and_self, wrd, u2, and_true, true_and, and_false, false_and, and_self, ite_true, ite_false, reduceIte, hne]
          exact hj j hj') (fun p hp => by
          simp only [mj_cpok, mj_nn, reduceCtorEq, lg_self, Nat.not_lt_zero, Nat.zero_le, Nat.reduceEqDiff, Nat.reduceLT, Nat.reduceLeDiff, true_or, or_true, false_or, or_false, not_true_eq_false, not_false_eq_true, true_imp_iff, false_imp_iff, and_self, wrd, u2, and_true, true_and, and_false, false_and, and_self, ite_true, ite_false, reduceIte]
          by_cases h : 30 * r + p = 30 * r + k
          · have h' : p = k := by omega
            subst h'
            rw [if_pos rfl, if_pos (Nat.lt_succ_self _), hV p hp, if_neg (by omega)]
            unfold lkF
            rw [if_pos ⟨hp, c⟩]
          · rw [if_neg h, hV p hp]
            by_cases h' : p < k
            · rw [if_pos h', if_pos (by omega)]
            · rw [if_neg h', if_neg (by omega)])
        simp (disch := omega) only [e_120_3, e_120_5, e_120_8, e_120_9, e_120_10, e_120_11, e_120_12, e_120_13, e_120_14, e_120_17, e_120_18, e_120_21, e_120_23, e_120_24, e_120_27, e_120_28, e_120_29, e_120_30, e_120_31, e_120_32, e_120_33, e_120_34, e_120_35, e_120_38, i_lit, i_add, i_mul, i_m1, i_lt, i_le, i_eq, i_cl, i_in, i_ltN, i_Nlt, i_leN, i_Nle, i_eN, i_Ne, i_inN, i_l1, i_l2, mj_cpok, mj_nn, reduceCtorEq, lg_self, Nat.not_lt_zero, Nat.zero_le, Nat.reduceEqDiff, Nat.reduceLT, Nat.reduceLeDiff, true_or, or_true, false_or, or_false, not_true_eq_false, not_false_eq_true, true_imp_iff, false_imp_iff, and_self, wrd, u2, and_true, true_and, and_false, false_and, and_self, ite_true, ite_false, reduceIte, ts_s1, c, g_651 G', e644]
        (repeat' (first | (with_reducible refine And.intro ?_ ?_) | (with_reducible intro _)))
        all_goals first | omega | exact nn
      · have c' : bt l k = false := Bool.eq_false_iff.mpr c
        have nn := ih (k + 1) V (by omega) hF hj (fun p hp => by
          rw [hV p hp]
          by_cases h' : p < k
          · rw [if_pos h', if_pos (by omega)]
          · rw [if_neg h']
            by_cases h : p < k + 1
            · rw [if_pos h]
              have e : p = k := by omega
              subst e
              unfold lkF
              rw [if_neg (fun q => c q.2)]
            · rw [if_neg h])
        simp (disch := omega) only [e_120_3, e_120_5, e_120_8, e_120_9, e_120_10, e_120_11, e_120_12, e_120_13, e_120_14, e_120_35, e_120_38, i_lit, i_add, i_mul, i_m1, i_lt, i_le, i_eq, i_cl, i_in, i_ltN, i_Nlt, i_leN, i_Nle, i_eN, i_Ne, i_inN, i_l1, i_l2, mj_cpok, mj_nn, reduceCtorEq, lg_self, Nat.not_lt_zero, Nat.zero_le, Nat.reduceEqDiff, Nat.reduceLT, Nat.reduceLeDiff, true_or, or_true, false_or, or_false, not_true_eq_false, not_false_eq_true, true_imp_iff, false_imp_iff, and_self, wrd, u2, and_true, true_and, and_false, false_and, and_self, ite_true, ite_false, reduceIte, ts_s1, c', Bool.false_eq_true, Bool.true_eq_false]
        (repeat' (first | (with_reducible refine And.intro ?_ ?_) | (with_reducible intro _)))
        all_goals first | omega | exact nn
  have nn := loop 30 0 W rfl Fr_refl (fun _ _ => rfl) (fun p hp => by rw [if_neg (Nat.not_lt_zero p)])
  simp (disch := omega) only [e_120_0, e_120_1, i_lit, i_add, i_mul, i_m1, i_lt, i_le, i_eq, i_cl, i_in, i_ltN, i_Nlt, i_leN, i_Nle, i_eN, i_Ne, i_inN, i_l1, i_l2, mj_cpok, mj_nn, reduceCtorEq, lg_self, Nat.not_lt_zero, Nat.zero_le, Nat.reduceEqDiff, Nat.reduceLT, Nat.reduceLeDiff, true_or, or_true, false_or, or_false, not_true_eq_false, not_false_eq_true, true_imp_iff, false_imp_iff, and_self, wrd, u2, and_true, true_and, and_false, false_and, and_self, ite_true, ite_false, reduceIte]
  exact nn
def rfO (Q : MRes → MWd → Prop) (W : MWd) (r dep : Nat) : PSt → Prop
  | (i, np, fo, lt, f, l, e) => ∀ V, Fr rF rA 0 0 W V → rfU W V r → rfR V r i np dep fo lt → wFI V 660 128 = f → wFI V 661 128 = l → wFI V 662 128 = b2 e → Q (.inl none) V
def rfKa (Q : MRes → MWd → Prop) (W : MWd) (r dep : Nat) : PRes → Prop
  | .inl e => rfE Q W r e
  | .inr y => rfO Q W r dep y
def rfK (n : Nat) (Q : MRes → MWd → Prop) (W : MWd) (r dep : Nat) : PRes → Prop
  | .inl e => rfE Q W r e
  | .inr y => (y.1 = 40 ∧ 40 < n → rfE Q W r 40) ∧ (¬ (y.1 = 40 ∧ 40 < n) → rfO Q W r dep y)
theorem rfE_tr {Q Q' : MRes → MWd → Prop} {W U : MWd} {r e : Nat} (h : Fr rF rA 0 0 W U) (hU : rfU W U r) (hQ : ∀ p V, Q (.inr (3, some p)) V → Q' (.inr (3, some p)) V) (K : rfE Q W r e) : rfE Q' U r e :=
  fun V a hV hV2 h582 => hQ _ V (K V a (Fr_weak (Fr_trans h hV) (fun _ _ q => q) (fun _ q => q) (by omega) (by omega)) (rfU_tr hU hV2) h582)
theorem r_122 {m : Int32} (G : Gr W) (hr : r < 12) (hn : np < 30) (hf : fo np = Int32.ofNat 0) (hW : rfR W r i np dep fo lt) (K : rfKa Q W r dep (addP np fo lt m i)) : mR d W 122 0 [some (vR (some (10, 0, 128))), some (vI m), none] [] Q := by
  obtain ⟨h658, h659, h644, h134, hp⟩ := hW
  have k0 := K (sFI (sFI (sFI (sAI (sAI (sAI W 135 (30 * r + np) m) 136 (30 * r + np) (Int32.ofNat 0)) 134 r (Int32.ofNat (np + 1))) 660 128 (bit1 np)) 661 128 (bit1 np)) 662 128 (Int32.ofNat 0))
    (Fr_sFI (Fr_sFI (Fr_sFI (Fr_sAI (Fr_sAI (Fr_sAI Fr_refl (by omega)) (by omega)) (by omega)) (by omega)) (by omega)) (by omega)) ⟨fun j hj => by
      have hne : ¬ j = r := by omega
      simp only [mj_cpok, mj_nn, reduceCtorEq, lg_self, Nat.not_lt_zero, Nat.zero_le, Nat.reduceEqDiff, Nat.reduceLT, Nat.reduceLeDiff, true_or, or_true, false_or, or_false, not_true_eq_false, not_false_eq_true, true_imp_iff, false_imp_iff, and_self, wrd, u2, and_true, true_and, and_false, false_and, and_self, ite_true, ite_false, reduceIte, hne], fun j hj => by
      have hne : ¬ j = 30 * r + np := by omega
      simp only [mj_cpok, mj_nn, reduceCtorEq, lg_self, Nat.not_lt_zero, Nat.zero_le, Nat.reduceEqDiff, Nat.reduceLT, Nat.reduceLeDiff, true_or, or_true, false_or, or_false, not_true_eq_false, not_false_eq_true, true_imp_iff, false_imp_iff, and_self, wrd, u2, and_true, true_and, and_false, false_and, and_self, ite_true, ite_false, reduceIte, hne]⟩ ⟨by simp only [mj_cpok, mj_nn, reduceCtorEq, lg_self, Nat.not_lt_zero, Nat.zero_le, Nat.reduceEqDiff, Nat.reduceLT, Nat.reduceLeDiff, true_or, or_true, false_or, or_false, not_true_eq_false, not_false_eq_true, true_imp_iff, false_imp_iff, and_self, wrd, u2, and_true, true_and, and_false, false_and, and_self, ite_true, ite_false, reduceIte]; exact h658, by simp only [mj_cpok, mj_nn, reduceCtorEq, lg_self, Nat.not_lt_zero, Nat.zero_le, Nat.reduceEqDiff, Nat.reduceLT, Nat.reduceLeDiff, true_or, or_true, false_or, or_false, not_true_eq_false, not_false_eq_true, true_imp_iff, false_imp_iff, and_self, wrd, u2, and_true, true_and, and_false, false_and, and_self, ite_true, ite_false, reduceIte]; exact h659, by simp only [mj_cpok, mj_nn, reduceCtorEq, lg_self, Nat.not_lt_zero, Nat.zero_le, Nat.reduceEqDiff, Nat.reduceLT, Nat.reduceLeDiff, true_or, or_true, false_or, or_false, not_true_eq_false, not_false_eq_true, true_imp_iff, false_imp_iff, and_self, wrd, u2, and_true, true_and, and_false, false_and, and_self, ite_true, ite_false, reduceIte]; exact h644, by simp only [mj_cpok, mj_nn, reduceCtorEq, lg_self, Nat.not_lt_zero, Nat.zero_le, Nat.reduceEqDiff, Nat.reduceLT, Nat.reduceLeDiff, true_or, or_true, false_or, or_false, not_true_eq_false, not_false_eq_true, true_imp_iff, false_imp_iff, and_self, wrd, u2, and_true, true_and, and_false, false_and, and_self, ite_true, ite_false, reduceIte], fun p hp' => by
      simp only [mj_cpok, mj_nn, reduceCtorEq, lg_self, Nat.not_lt_zero, Nat.zero_le, Nat.reduceEqDiff, Nat.reduceLT, Nat.reduceLeDiff, true_or, or_true, false_or, or_false, not_true_eq_false, not_false_eq_true, true_imp_iff, false_imp_iff, and_self, wrd, u2, and_true, true_and, and_false, false_and, and_self, ite_true, ite_false, reduceIte]
      by_cases c : p = np
      · subst c
        rw [if_pos rfl, if_pos rfl, hf]
        exact ⟨rfl, (if_pos rfl).symm⟩
      · rw [if_neg (by omega), if_neg (by omega)]
        exact ⟨(hp p (by omega)).1, (hp p (by omega)).2.trans (if_neg c).symm⟩⟩ (by simp only [mj_cpok, mj_nn, reduceCtorEq, lg_self, Nat.not_lt_zero, Nat.zero_le, Nat.reduceEqDiff, Nat.reduceLT, Nat.reduceLeDiff, true_or, or_true, false_or, or_false, not_true_eq_false, not_false_eq_true, true_imp_iff, false_imp_iff, and_self, wrd, u2, and_true, true_and, and_false, false_and, and_self, ite_true, ite_false, reduceIte]) (by simp only [mj_cpok, mj_nn, reduceCtorEq, lg_self, Nat.not_lt_zero, Nat.zero_le, Nat.reduceEqDiff, Nat.reduceLT, Nat.reduceLeDiff, true_or, or_true, false_or, or_false, not_true_eq_false, not_false_eq_true, true_imp_iff, false_imp_iff, and_self, wrd, u2, and_true, true_and, and_false, false_and, and_self, ite_true, ite_false, reduceIte]) (by simp only [mj_cpok, mj_nn, reduceCtorEq, lg_self, Nat.not_lt_zero, Nat.zero_le, Nat.reduceEqDiff, Nat.reduceLT, Nat.reduceLeDiff, true_or, or_true, false_or, or_false, not_true_eq_false, not_false_eq_true, true_imp_iff, false_imp_iff, and_self, wrd, u2, and_true, true_and, and_false, false_and, and_self, ite_true, ite_false, reduceIte]; rfl)
  unfold bit1 at k0
  simp (disch := omega) only [e_122_0, e_122_1, e_122_4, e_122_5, e_122_8, e_122_9, e_122_10, e_122_11, e_122_14, e_122_16, e_122_17, e_122_20, e_122_21, e_122_22, e_122_23, e_122_24, e_122_25, e_122_26, e_122_29, e_122_31, e_122_32, e_122_35, e_122_36, e_122_37, e_122_38, e_122_39, e_122_40, e_122_41, e_122_44, e_122_45, e_122_48, e_122_49, e_122_50, e_122_51, e_122_52, e_122_53, e_122_54, e_122_55, e_122_56, e_122_57, e_122_60, e_122_61, e_122_62, e_122_65, e_122_68, e_122_69, e_122_70, e_122_73, i_lit, i_add, i_mul, i_m1, i_lt, i_le, i_eq, i_cl, i_in, i_ltN, i_Nlt, i_leN, i_Nle, i_eN, i_Ne, i_inN, i_l1, i_l2, mj_cpok, mj_nn, reduceCtorEq, lg_self, Nat.not_lt_zero, Nat.zero_le, Nat.reduceEqDiff, Nat.reduceLT, Nat.reduceLeDiff, true_or, or_true, false_or, or_false, not_true_eq_false, not_false_eq_true, true_imp_iff, false_imp_iff, and_self, wrd, u2, and_true, true_and, and_false, false_and, and_self, ite_true, ite_false, reduceIte, g_649 G, g_650 G, g_651 G, h644, h134]
  (repeat' (first | (with_reducible refine And.intro ?_ ?_) | (with_reducible intro _)))
  all_goals first | omega | exact k0
theorem r_118 (G : Gr W) (hT : rfT W n B) (h1 : wFI W 658 128 = Int32.ofNat i) (hi : i ≤ 40) (Kt : i = 40 ∧ 40 < n → rfThr Q W) (K1 : ¬ (i = 40 ∧ 40 < n) → atB (sgn n B i) → Q (.inl (some (vI (Int32.ofNat 1)))) W) (K0 : ¬ (i = 40 ∧ 40 < n) → ¬ atB (sgn n B i) → Q (.inl (some (vI (Int32.ofNat 0)))) W) : mR (d + 2) W 118 0 [some (vR (some (10, 0, 128)))] [] Q := by
  have hS : sgOk (sgn n B) := sgn_ok (fun i hi => (hT.2.2 i hi).1)
  have hb := hS i
  have now : ∀ (pc nx : Nat) (Q' : MRes → MWd → Prop), (mK (d + 2) 118 pc nx [some (vR (some (10, 0, 128)))] [] Q (.inr (3, some (9, 0, wN W))) (mj_wrong W 128) = Q (.inr (3, some (9, 0, wN W))) (mj_wrong W 128)) → (¬ (i = 40 ∧ 40 < n) → mR (d + 2) W 118 nx [some (vR (some (10, 0, 128)))] [vI (sgI (sgn n B i))] Q) → mR (d + 1) W 115 0 [some (vR (some (10, 0, 128)))] [] (mK (d + 2) 118 pc nx [some (vR (some (10, 0, 128)))] [] Q) := by
    intro pc nx Q' hx h
    refine r_115 G hT h1 hi (fun c => ?_) (fun c => ?_)
    · have := Kt c
      unfold rfThr
      rw [hx]; exact this
    · rw [mK_v]; exact h c
  simp (disch := omega) only [e_118_0, e_118_1, e_118_4, e_118_7, e_118_10, e_118_11, e_118_14, e_118_16, e_118_19, e_118_20, e_118_23, e_118_25, e_118_28, e_118_29, e_118_32, e_118_34, e_118_37, e_118_38, e_118_41, e_118_42, i_lit, i_add, i_mul, i_m1, i_lt, i_le, i_eq, i_cl, i_in, i_ltN, i_Nlt, i_leN, i_Nle, i_eN, i_Ne, i_inN, i_l1, i_l2, mj_cpok, mj_nn, reduceCtorEq, lg_self, Nat.not_lt_zero, Nat.zero_le, Nat.reduceEqDiff, Nat.reduceLT, Nat.reduceLeDiff, true_or, or_true, false_or, or_false, not_true_eq_false, not_false_eq_true, true_imp_iff, false_imp_iff, and_self, wrd, u2, and_true, true_and, and_false, false_and, and_self, ite_true, ite_false, reduceIte]
  refine now 1 4 Q (mK_x (by decide +kernel)) (fun c => ?_)
  simp (disch := omega) only [e_118_0, e_118_1, e_118_4, e_118_7, e_118_10, e_118_11, e_118_14, e_118_16, e_118_19, e_118_20, e_118_23, e_118_25, e_118_28, e_118_29, e_118_32, e_118_34, e_118_37, e_118_38, e_118_41, e_118_42, i_lit, i_add, i_mul, i_m1, i_lt, i_le, i_eq, i_cl, i_in, i_ltN, i_Nlt, i_leN, i_Nle, i_eN, i_Ne, i_inN, i_l1, i_l2, mj_cpok, mj_nn, reduceCtorEq, lg_self, Nat.not_lt_zero, Nat.zero_le, Nat.reduceEqDiff, Nat.reduceLT, Nat.reduceLeDiff, true_or, or_true, false_or, or_false, not_true_eq_false, not_false_eq_true, true_imp_iff, false_imp_iff, and_self, wrd, u2, and_true, true_and, and_false, false_and, and_self, ite_true, ite_false, reduceIte]
  refine r_116 hb.1 (fun h => ?_) (fun h => ?_)
  · have k := K1 c (Or.inl h)
    simp (disch := omega) only [e_118_0, e_118_1, e_118_4, e_118_7, e_118_10, e_118_11, e_118_14, e_118_16, e_118_19, e_118_20, e_118_23, e_118_25, e_118_28, e_118_29, e_118_32, e_118_34, e_118_37, e_118_38, e_118_41, e_118_42, i_lit, i_add, i_mul, i_m1, i_lt, i_le, i_eq, i_cl, i_in, i_ltN, i_Nlt, i_leN, i_Nle, i_eN, i_Ne, i_inN, i_l1, i_l2, mj_cpok, mj_nn, reduceCtorEq, lg_self, Nat.not_lt_zero, Nat.zero_le, Nat.reduceEqDiff, Nat.reduceLT, Nat.reduceLeDiff, true_or, or_true, false_or, or_false, not_true_eq_false, not_false_eq_true, true_imp_iff, false_imp_iff, and_self, wrd, u2, and_true, true_and, and_false, false_and, and_self, ite_true, ite_false, reduceIte, mK_v]
    (repeat' (first | (with_reducible refine And.intro ?_ ?_) | (with_reducible intro _)))
    all_goals first | omega | exact k
  · have fin : mR (d + 2) W 118 10 [some (vR (some (10, 0, 128)))] [] Q := by
      by_cases c9 : sgn n B i = 256
      · have k := K0 c (by rw [c9]; decide)
        simp (disch := omega) only [e_118_0, e_118_1, e_118_4, e_118_7, e_118_10, e_118_11, e_118_14, e_118_16, e_118_19, e_118_20, e_118_23, e_118_25, e_118_28, e_118_29, e_118_32, e_118_34, e_118_37, e_118_38, e_118_41, e_118_42, i_lit, i_add, i_mul, i_m1, i_lt, i_le, i_eq, i_cl, i_in, i_ltN, i_Nlt, i_leN, i_Nle, i_eN, i_Ne, i_inN, i_l1, i_l2, mj_cpok, mj_nn, reduceCtorEq, lg_self, Nat.not_lt_zero, Nat.zero_le, Nat.reduceEqDiff, Nat.reduceLT, Nat.reduceLeDiff, true_or, or_true, false_or, or_false, not_true_eq_false, not_false_eq_true, true_imp_iff, false_imp_iff, and_self, wrd, u2, and_true, true_and, and_false, false_and, and_self, ite_true, ite_false, reduceIte, mK_v]
        refine now 11 14 Q (mK_x (by decide +kernel)) (fun _ => ?_)
        rw [c9, sgI_e]
        simp (disch := omega) only [e_118_0, e_118_1, e_118_4, e_118_7, e_118_10, e_118_11, e_118_14, e_118_16, e_118_19, e_118_20, e_118_23, e_118_25, e_118_28, e_118_29, e_118_32, e_118_34, e_118_37, e_118_38, e_118_41, e_118_42, i_lit, i_add, i_mul, i_m1, i_lt, i_le, i_eq, i_cl, i_in, i_ltN, i_Nlt, i_leN, i_Nle, i_eN, i_Ne, i_inN, i_l1, i_l2, mj_cpok, mj_nn, reduceCtorEq, lg_self, Nat.not_lt_zero, Nat.zero_le, Nat.reduceEqDiff, Nat.reduceLT, Nat.reduceLeDiff, true_or, or_true, false_or, or_false, not_true_eq_false, not_false_eq_true, true_imp_iff, false_imp_iff, and_self, wrd, u2, and_true, true_and, and_false, false_and, and_self, ite_true, ite_false, reduceIte, mK_v]
        (repeat' (first | (with_reducible refine And.intro ?_ ?_) | (with_reducible intro _)))
        all_goals try omega
        refine now 20 23 Q (mK_x (by decide +kernel)) (fun _ => ?_)
        rw [c9, sgI_e]
        simp (disch := omega) only [e_118_0, e_118_1, e_118_4, e_118_7, e_118_10, e_118_11, e_118_14, e_118_16, e_118_19, e_118_20, e_118_23, e_118_25, e_118_28, e_118_29, e_118_32, e_118_34, e_118_37, e_118_38, e_118_41, e_118_42, i_lit, i_add, i_mul, i_m1, i_lt, i_le, i_eq, i_cl, i_in, i_ltN, i_Nlt, i_leN, i_Nle, i_eN, i_Ne, i_inN, i_l1, i_l2, mj_cpok, mj_nn, reduceCtorEq, lg_self, Nat.not_lt_zero, Nat.zero_le, Nat.reduceEqDiff, Nat.reduceLT, Nat.reduceLeDiff, true_or, or_true, false_or, or_false, not_true_eq_false, not_false_eq_true, true_imp_iff, false_imp_iff, and_self, wrd, u2, and_true, true_and, and_false, false_and, and_self, ite_true, ite_false, reduceIte, mK_v]
        (repeat' (first | (with_reducible refine And.intro ?_ ?_) | (with_reducible intro _)))
        all_goals try omega
        refine now 29 32 Q (mK_x (by decide +kernel)) (fun _ => ?_)
        rw [c9, sgI_e]
        simp (disch := omega) only [e_118_0, e_118_1, e_118_4, e_118_7, e_118_10, e_118_11, e_118_14, e_118_16, e_118_19, e_118_20, e_118_23, e_118_25, e_118_28, e_118_29, e_118_32, e_118_34, e_118_37, e_118_38, e_118_41, e_118_42, i_lit, i_add, i_mul, i_m1, i_lt, i_le, i_eq, i_cl, i_in, i_ltN, i_Nlt, i_leN, i_Nle, i_eN, i_Ne, i_inN, i_l1, i_l2, mj_cpok, mj_nn, reduceCtorEq, lg_self, Nat.not_lt_zero, Nat.zero_le, Nat.reduceEqDiff, Nat.reduceLT, Nat.reduceLeDiff, true_or, or_true, false_or, or_false, not_true_eq_false, not_false_eq_true, true_imp_iff, false_imp_iff, and_self, wrd, u2, and_true, true_and, and_false, false_and, and_self, ite_true, ite_false, reduceIte, mK_v]
        (repeat' (first | (with_reducible refine And.intro ?_ ?_) | (with_reducible intro _)))
        all_goals first | omega | exact k
      · by_cases h2 : atB (sgn n B i)
        · have k := K1 c h2
          simp (disch := omega) only [e_118_0, e_118_1, e_118_4, e_118_7, e_118_10, e_118_11, e_118_14, e_118_16, e_118_19, e_118_20, e_118_23, e_118_25, e_118_28, e_118_29, e_118_32, e_118_34, e_118_37, e_118_38, e_118_41, e_118_42, i_lit, i_add, i_mul, i_m1, i_lt, i_le, i_eq, i_cl, i_in, i_ltN, i_Nlt, i_leN, i_Nle, i_eN, i_Ne, i_inN, i_l1, i_l2, mj_cpok, mj_nn, reduceCtorEq, lg_self, Nat.not_lt_zero, Nat.zero_le, Nat.reduceEqDiff, Nat.reduceLT, Nat.reduceLeDiff, true_or, or_true, false_or, or_false, not_true_eq_false, not_false_eq_true, true_imp_iff, false_imp_iff, and_self, wrd, u2, and_true, true_and, and_false, false_and, and_self, ite_true, ite_false, reduceIte, mK_v]
          refine now 11 14 Q (mK_x (by decide +kernel)) (fun _ => ?_)
          rw [sgI_n c9]
          simp (disch := omega) only [e_118_0, e_118_1, e_118_4, e_118_7, e_118_10, e_118_11, e_118_14, e_118_16, e_118_19, e_118_20, e_118_23, e_118_25, e_118_28, e_118_29, e_118_32, e_118_34, e_118_37, e_118_38, e_118_41, e_118_42, i_lit, i_add, i_mul, i_m1, i_lt, i_le, i_eq, i_cl, i_in, i_ltN, i_Nlt, i_leN, i_Nle, i_eN, i_Ne, i_inN, i_l1, i_l2, mj_cpok, mj_nn, reduceCtorEq, lg_self, Nat.not_lt_zero, Nat.zero_le, Nat.reduceEqDiff, Nat.reduceLT, Nat.reduceLeDiff, true_or, or_true, false_or, or_false, not_true_eq_false, not_false_eq_true, true_imp_iff, false_imp_iff, and_self, wrd, u2, and_true, true_and, and_false, false_and, and_self, ite_true, ite_false, reduceIte, mK_v]
          (repeat' (first | (with_reducible refine And.intro ?_ ?_) | (with_reducible intro _)))
          all_goals try first | omega | exact k
          refine now 20 23 Q (mK_x (by decide +kernel)) (fun _ => ?_)
          rw [sgI_n c9]
          simp (disch := omega) only [e_118_0, e_118_1, e_118_4, e_118_7, e_118_10, e_118_11, e_118_14, e_118_16, e_118_19, e_118_20, e_118_23, e_118_25, e_118_28, e_118_29, e_118_32, e_118_34, e_118_37, e_118_38, e_118_41, e_118_42, i_lit, i_add, i_mul, i_m1, i_lt, i_le, i_eq, i_cl, i_in, i_ltN, i_Nlt, i_leN, i_Nle, i_eN, i_Ne, i_inN, i_l1, i_l2, mj_cpok, mj_nn, reduceCtorEq, lg_self, Nat.not_lt_zero, Nat.zero_le, Nat.reduceEqDiff, Nat.reduceLT, Nat.reduceLeDiff, true_or, or_true, false_or, or_false, not_true_eq_false, not_false_eq_true, true_imp_iff, false_imp_iff, and_self, wrd, u2, and_true, true_and, and_false, false_and, and_self, ite_true, ite_false, reduceIte, mK_v]
          (repeat' (first | (with_reducible refine And.intro ?_ ?_) | (with_reducible intro _)))
          all_goals try first | omega | exact k
          refine now 29 32 Q (mK_x (by decide +kernel)) (fun _ => ?_)
          rw [sgI_n c9]
          simp (disch := omega) only [e_118_0, e_118_1, e_118_4, e_118_7, e_118_10, e_118_11, e_118_14, e_118_16, e_118_19, e_118_20, e_118_23, e_118_25, e_118_28, e_118_29, e_118_32, e_118_34, e_118_37, e_118_38, e_118_41, e_118_42, i_lit, i_add, i_mul, i_m1, i_lt, i_le, i_eq, i_cl, i_in, i_ltN, i_Nlt, i_leN, i_Nle, i_eN, i_Ne, i_inN, i_l1, i_l2, mj_cpok, mj_nn, reduceCtorEq, lg_self, Nat.not_lt_zero, Nat.zero_le, Nat.reduceEqDiff, Nat.reduceLT, Nat.reduceLeDiff, true_or, or_true, false_or, or_false, not_true_eq_false, not_false_eq_true, true_imp_iff, false_imp_iff, and_self, wrd, u2, and_true, true_and, and_false, false_and, and_self, ite_true, ite_false, reduceIte, mK_v]
          (repeat' (first | (with_reducible refine And.intro ?_ ?_) | (with_reducible intro _)))
          all_goals first | omega | exact k
        · have k := K0 c h2
          simp (disch := omega) only [e_118_0, e_118_1, e_118_4, e_118_7, e_118_10, e_118_11, e_118_14, e_118_16, e_118_19, e_118_20, e_118_23, e_118_25, e_118_28, e_118_29, e_118_32, e_118_34, e_118_37, e_118_38, e_118_41, e_118_42, i_lit, i_add, i_mul, i_m1, i_lt, i_le, i_eq, i_cl, i_in, i_ltN, i_Nlt, i_leN, i_Nle, i_eN, i_Ne, i_inN, i_l1, i_l2, mj_cpok, mj_nn, reduceCtorEq, lg_self, Nat.not_lt_zero, Nat.zero_le, Nat.reduceEqDiff, Nat.reduceLT, Nat.reduceLeDiff, true_or, or_true, false_or, or_false, not_true_eq_false, not_false_eq_true, true_imp_iff, false_imp_iff, and_self, wrd, u2, and_true, true_and, and_false, false_and, and_self, ite_true, ite_false, reduceIte, mK_v]
          refine now 11 14 Q (mK_x (by decide +kernel)) (fun _ => ?_)
          rw [sgI_n c9]
          simp (disch := omega) only [e_118_0, e_118_1, e_118_4, e_118_7, e_118_10, e_118_11, e_118_14, e_118_16, e_118_19, e_118_20, e_118_23, e_118_25, e_118_28, e_118_29, e_118_32, e_118_34, e_118_37, e_118_38, e_118_41, e_118_42, i_lit, i_add, i_mul, i_m1, i_lt, i_le, i_eq, i_cl, i_in, i_ltN, i_Nlt, i_leN, i_Nle, i_eN, i_Ne, i_inN, i_l1, i_l2, mj_cpok, mj_nn, reduceCtorEq, lg_self, Nat.not_lt_zero, Nat.zero_le, Nat.reduceEqDiff, Nat.reduceLT, Nat.reduceLeDiff, true_or, or_true, false_or, or_false, not_true_eq_false, not_false_eq_true, true_imp_iff, false_imp_iff, and_self, wrd, u2, and_true, true_and, and_false, false_and, and_self, ite_true, ite_false, reduceIte, mK_v]
          (repeat' (first | (with_reducible refine And.intro ?_ ?_) | (with_reducible intro _)))
          all_goals try first | omega | exact k
          refine now 20 23 Q (mK_x (by decide +kernel)) (fun _ => ?_)
          rw [sgI_n c9]
          simp (disch := omega) only [e_118_0, e_118_1, e_118_4, e_118_7, e_118_10, e_118_11, e_118_14, e_118_16, e_118_19, e_118_20, e_118_23, e_118_25, e_118_28, e_118_29, e_118_32, e_118_34, e_118_37, e_118_38, e_118_41, e_118_42, i_lit, i_add, i_mul, i_m1, i_lt, i_le, i_eq, i_cl, i_in, i_ltN, i_Nlt, i_leN, i_Nle, i_eN, i_Ne, i_inN, i_l1, i_l2, mj_cpok, mj_nn, reduceCtorEq, lg_self, Nat.not_lt_zero, Nat.zero_le, Nat.reduceEqDiff, Nat.reduceLT, Nat.reduceLeDiff, true_or, or_true, false_or, or_false, not_true_eq_false, not_false_eq_true, true_imp_iff, false_imp_iff, and_self, wrd, u2, and_true, true_and, and_false, false_and, and_self, ite_true, ite_false, reduceIte, mK_v]
          (repeat' (first | (with_reducible refine And.intro ?_ ?_) | (with_reducible intro _)))
          all_goals try first | omega | exact k
          refine now 29 32 Q (mK_x (by decide +kernel)) (fun _ => ?_)
          rw [sgI_n c9]
          simp (disch := omega) only [e_118_0, e_118_1, e_118_4, e_118_7, e_118_10, e_118_11, e_118_14, e_118_16, e_118_19, e_118_20, e_118_23, e_118_25, e_118_28, e_118_29, e_118_32, e_118_34, e_118_37, e_118_38, e_118_41, e_118_42, i_lit, i_add, i_mul, i_m1, i_lt, i_le, i_eq, i_cl, i_in, i_ltN, i_Nlt, i_leN, i_Nle, i_eN, i_Ne, i_inN, i_l1, i_l2, mj_cpok, mj_nn, reduceCtorEq, lg_self, Nat.not_lt_zero, Nat.zero_le, Nat.reduceEqDiff, Nat.reduceLT, Nat.reduceLeDiff, true_or, or_true, false_or, or_false, not_true_eq_false, not_false_eq_true, true_imp_iff, false_imp_iff, and_self, wrd, u2, and_true, true_and, and_false, false_and, and_self, ite_true, ite_false, reduceIte, mK_v]
          (repeat' (first | (with_reducible refine And.intro ?_ ?_) | (with_reducible intro _)))
          all_goals first | omega | exact k
    simp (disch := omega) only [e_118_7, i_lit, i_add, i_mul, i_m1, i_lt, i_le, i_eq, i_cl, i_in, i_ltN, i_Nlt, i_leN, i_Nle, i_eN, i_Ne, i_inN, i_l1, i_l2, mj_cpok, mj_nn, reduceCtorEq, lg_self, Nat.not_lt_zero, Nat.zero_le, Nat.reduceEqDiff, Nat.reduceLT, Nat.reduceLeDiff, true_or, or_true, false_or, or_false, not_true_eq_false, not_false_eq_true, true_imp_iff, false_imp_iff, and_self, wrd, u2, and_true, true_and, and_false, false_and, and_self, ite_true, ite_false, reduceIte, mK_v]
    (repeat' (first | (with_reducible refine And.intro ?_ ?_) | (with_reducible intro _)))
    all_goals first | omega | exact fin
end RF
