/-! addRule: the reference's reader, spans, places, links. -/
section RF
variable {d : Nat} {W : MWd} {n i r np : Nat} {B : Nat → Nat} {Q : MRes → MWd → Prop}
abbrev rF1 : Nat → Nat → Prop := fun k a => a = 128 ∧ k = 658
theorem r_125 (G0 : Gr W) (hT0 : rfT W n B) (K1 : ∀ V i' m', spR (sgn n B) 40 i (Int32.ofNat 0) = .inr (i', m') → Fr rF1 (fun _ => False) 0 0 W V → wFI V 658 128 = Int32.ofNat i' → Q (.inl (some (vI m'))) V)
    (K0 : ∀ V e, spR (sgn n B) 40 i (Int32.ofNat 0) = .inl e → Fr rF1 (fun _ => False) 0 0 W V → wFI V 658 128 = Int32.ofNat e → rfThr Q V) (h1 : wFI W 658 128 = Int32.ofNat i) (hi : i ≤ 40) :
    mR (d + 3) W 125 0 [some (vR (some (10, 0, 128))), none, none, none, none] [] Q := by
  have hS : sgOk (sgn n B) := sgn_ok (fun i hi => (hT0.2.2 i hi).1)
  have loop : ∀ (f i : Nat) (m : Int32) (V : MWd) (x2 x3 x4 : Option MV), 40 ≤ i + f → i ≤ 40 → Fr rF1 (fun _ => False) 0 0 W V → wFI V 658 128 = Int32.ofNat i →
      (∀ U i' m', spR (sgn n B) f i m = .inr (i', m') → Fr rF1 (fun _ => False) 0 0 W U → wFI U 658 128 = Int32.ofNat i' → Q (.inl (some (vI m'))) U) →
      (∀ U e, spR (sgn n B) f i m = .inl e → Fr rF1 (fun _ => False) 0 0 W U → wFI U 658 128 = Int32.ofNat e → rfThr Q U) →
      mR (d + 3) V 125 2 [some (vR (some (10, 0, 128))), some (vI m), x2, x3, x4] [] Q := by
    intro f
    induction f with
    | zero =>
      intro i m V x2 x3 x4 hf hi hF hV k1 k0
      have e : i = 40 := by omega
      subst e
      have kk := k0 V 40 rfl hF hV
      have GV := Fr_Gr hF G0
      have hT := rfT_Fr hF (by omega) (fun q => q) hT0
      rw [e_125_2]
      simp (disch := omega) only [e_125_3, i_lit, i_add, i_mul, i_m1, i_lt, i_le, i_eq, i_cl, i_in, i_ltN, i_Nlt, i_leN, i_Nle, i_eN, i_Ne, i_inN, i_l1, i_l2, mj_cpok, mj_nn, reduceCtorEq, lg_self, Nat.not_lt_zero, Nat.zero_le, Nat.reduceEqDiff, Nat.reduceLT, Nat.reduceLeDiff, true_or, or_true, false_or, or_false, not_true_eq_false, not_false_eq_true, true_imp_iff, false_imp_iff, and_self, wrd, u2, and_true, true_and, and_false, false_and, and_self, ite_true, ite_false, reduceIte]
      refine r_124 (d := d) GV hT hV hi (fun c => by rw [sgn40] at c; exact absurd c (by decide)) (fun _ => ?_)
      show mK (d + 3) 125 3 6 _ _ Q _ _
      rw [mK_x (by decide +kernel)]
      exact kk
    | succ f ih =>
      intro i m V x2 x3 x4 hf hi hF hV k1 k0
      have GV := Fr_Gr hF G0
      have hT := rfT_Fr hF (by omega) (fun q => q) hT0
      have hb := hS i
      have eT := spR_s (S := sgn n B) (f := f) (i := i) (m := m)
      rw [eT] at k1 k0
      rw [e_125_2]
      simp (disch := omega) only [e_125_3, i_lit, i_add, i_mul, i_m1, i_lt, i_le, i_eq, i_cl, i_in, i_ltN, i_Nlt, i_leN, i_Nle, i_eN, i_Ne, i_inN, i_l1, i_l2, mj_cpok, mj_nn, reduceCtorEq, lg_self, Nat.not_lt_zero, Nat.zero_le, Nat.reduceEqDiff, Nat.reduceLT, Nat.reduceLeDiff, true_or, or_true, false_or, or_false, not_true_eq_false, not_false_eq_true, true_imp_iff, false_imp_iff, and_self, wrd, u2, and_true, true_and, and_false, false_and, and_self, ite_true, ite_false, reduceIte]
      refine r_124 (d := d) GV hT hV hi (fun c0 => ?_) (fun c0 => ?_)
      · -- behind a span: at i2, with the letters a to b put to m
        have aft : ∀ (U : MWd) (i2 a b : Nat) (x4 : Option MV), sp1 (sgn n B) i = .inr (i2, if a = b then bit1 a else spM a b 8) → a < 8 → b < 8 → i < i2 → i2 ≤ 40 → Fr rF1 (fun _ => False) 0 0 W U → wFI U 658 128 = Int32.ofNat i2 →
            mR (d + 3) U 125 33 [some (vR (some (10, 0, 128))), some (vI m), some (vI (Int32.ofNat a)), some (vI (Int32.ofNat b)), x4] [] Q := by
          intro U i2 a b x4 hsp ha hb2 hi2 hi3 hU hU1
          have GU := Fr_Gr hU G0
          have hTU := rfT_Fr hU (by omega) (fun q => q) hT0
          rw [hsp] at k1 k0
          dsimp only at k1 k0
          have hb3 := hS i2
          have hm : ∀ q, q < 32 → (bt (m ||| if a = b then bit1 a else spM a b 8) q = true ↔ bt m q = true ∨ (a ≤ q ∧ q ≤ b)) := by
            intro q hq
            rw [bt_or, Bool.or_eq_true]
            refine or_congr_right ?_
            by_cases c : a = b
            · rw [if_pos c, bit1_bt (by omega), decide_eq_true_eq]; omega
            · rw [if_neg c, spM_bt (Nat.le_refl _)]; omega
          generalize (m ||| if a = b then bit1 a else spM a b 8) = m2 at hm k1 k0
          have nn := r_125i (d := d + 3) (W := U) (Q := Q) (p := some (10, 0, 128)) ha hb2 hm (fun k => ?_) (8 - a) a m (by omega) (Nat.le_refl _) (fun _ => by omega) (fun _ => rfl) (fun q hq => ⟨Or.inl, fun h => h.elim id (fun h => by omega)⟩)
          · simp (disch := omega) only [e_125_33, e_125_34, i_lit, i_add, i_mul, i_m1, i_lt, i_le, i_eq, i_cl, i_in, i_ltN, i_Nlt, i_leN, i_Nle, i_eN, i_Ne, i_inN, i_l1, i_l2, mj_cpok, mj_nn, reduceCtorEq, lg_self, Nat.not_lt_zero, Nat.zero_le, Nat.reduceEqDiff, Nat.reduceLT, Nat.reduceLeDiff, true_or, or_true, false_or, or_false, not_true_eq_false, not_false_eq_true, true_imp_iff, false_imp_iff, and_self, wrd, u2, and_true, true_and, and_false, false_and, and_self, ite_true, ite_false, reduceIte]
            exact nn
          · simp (disch := omega) only [e_125_55, e_125_56, i_lit, i_add, i_mul, i_m1, i_lt, i_le, i_eq, i_cl, i_in, i_ltN, i_Nlt, i_leN, i_Nle, i_eN, i_Ne, i_inN, i_l1, i_l2, mj_cpok, mj_nn, reduceCtorEq, lg_self, Nat.not_lt_zero, Nat.zero_le, Nat.reduceEqDiff, Nat.reduceLT, Nat.reduceLeDiff, true_or, or_true, false_or, or_false, not_true_eq_false, not_false_eq_true, true_imp_iff, false_imp_iff, and_self, wrd, u2, and_true, true_and, and_false, false_and, and_self, ite_true, ite_false, reduceIte]
            unfold spT at k1 k0
            refine r_115 GU hTU hU1 hi3 (fun c => ?_) (fun c => ?_)
            · have e40 : i2 = 40 := c.1
              subst e40
              have kk := k0 U 40 (by rw [sgn40]; rfl) hU hU1
              show mK (d + 3) 125 56 59 _ _ Q _ _
              rw [mK_x (by decide +kernel)]
              exact kk
            · by_cases c1 : sgn n B i2 = 93
              · rw [c1] at k1
                have kk := k1 (sFI U 658 128 (Int32.ofNat (i2 + 1))) (i2 + 1) m2 rfl (Fr_sFI hU (by omega)) (by simp only [mj_cpok, mj_nn, reduceCtorEq, lg_self, Nat.not_lt_zero, Nat.zero_le, Nat.reduceEqDiff, Nat.reduceLT, Nat.reduceLeDiff, true_or, or_true, false_or, or_false, not_true_eq_false, not_false_eq_true, true_imp_iff, false_imp_iff, and_self, wrd, u2, and_true, true_and, and_false, false_and, and_self, ite_true, ite_false, reduceIte])
                rw [c1, show sgI 93 = Int32.ofNat 93 from rfl]
                simp (disch := omega) only [e_125_59, e_125_61, e_125_64, e_125_65, e_125_66, e_125_69, e_125_70, e_125_71, e_125_74, e_125_75, mK_v, i_lit, i_add, i_mul, i_m1, i_lt, i_le, i_eq, i_cl, i_in, i_ltN, i_Nlt, i_leN, i_Nle, i_eN, i_Ne, i_inN, i_l1, i_l2, mj_cpok, mj_nn, reduceCtorEq, lg_self, Nat.not_lt_zero, Nat.zero_le, Nat.reduceEqDiff, Nat.reduceLT, Nat.reduceLeDiff, true_or, or_true, false_or, or_false, not_true_eq_false, not_false_eq_true, true_imp_iff, false_imp_iff, and_self, wrd, u2, and_true, true_and, and_false, false_and, and_self, ite_true, ite_false, reduceIte, hU1]
                (repeat' (first | (with_reducible refine And.intro ?_ ?_) | (with_reducible intro _)))
                all_goals first | omega | exact kk
              · have back : mR (d + 3) U 125 2 [some (vR (some (10, 0, 128))), some (vI m2), some (vI (Int32.ofNat a)), some (vI (Int32.ofNat b)), some (vI (Int32.ofNat k))] [] Q := by
                  by_cases c2 : isL (sgn n B i2)
                  · rw [if_pos c2] at k1 k0
                    exact ih i2 m2 U _ _ _ (by omega) hi3 hU hU1 k1 k0
                  · rw [if_neg c2, if_neg c1] at k0
                    have kk := k0 U i2 rfl hU hU1
                    rw [e_125_2]
                    simp (disch := omega) only [e_125_3, i_lit, i_add, i_mul, i_m1, i_lt, i_le, i_eq, i_cl, i_in, i_ltN, i_Nlt, i_leN, i_Nle, i_eN, i_Ne, i_inN, i_l1, i_l2, mj_cpok, mj_nn, reduceCtorEq, lg_self, Nat.not_lt_zero, Nat.zero_le, Nat.reduceEqDiff, Nat.reduceLT, Nat.reduceLeDiff, true_or, or_true, false_or, or_false, not_true_eq_false, not_false_eq_true, true_imp_iff, false_imp_iff, and_self, wrd, u2, and_true, true_and, and_false, false_and, and_self, ite_true, ite_false, reduceIte]
                    refine r_124 (d := d) GU hTU hU1 hi3 (fun c => absurd c c2) (fun _ => ?_)
                    show mK (d + 3) 125 3 6 _ _ Q _ _
                    rw [mK_x (by decide +kernel)]
                    exact kk
                by_cases c9 : sgn n B i2 = 256
                · rw [c9, sgI_e]
                  simp (disch := omega) only [e_125_59, e_125_61, mK_v, i_lit, i_add, i_mul, i_m1, i_lt, i_le, i_eq, i_cl, i_in, i_ltN, i_Nlt, i_leN, i_Nle, i_eN, i_Ne, i_inN, i_l1, i_l2, mj_cpok, mj_nn, reduceCtorEq, lg_self, Nat.not_lt_zero, Nat.zero_le, Nat.reduceEqDiff, Nat.reduceLT, Nat.reduceLeDiff, true_or, or_true, false_or, or_false, not_true_eq_false, not_false_eq_true, true_imp_iff, false_imp_iff, and_self, wrd, u2, and_true, true_and, and_false, false_and, and_self, ite_true, ite_false, reduceIte]
                  (repeat' (first | (with_reducible refine And.intro ?_ ?_) | (with_reducible intro _)))
                  all_goals first | omega | exact back
                · rw [sgI_n c9]
                  simp (disch := omega) only [e_125_59, e_125_61, mK_v, i_lit, i_add, i_mul, i_m1, i_lt, i_le, i_eq, i_cl, i_in, i_ltN, i_Nlt, i_leN, i_Nle, i_eN, i_Ne, i_inN, i_l1, i_l2, mj_cpok, mj_nn, reduceCtorEq, lg_self, Nat.not_lt_zero, Nat.zero_le, Nat.reduceEqDiff, Nat.reduceLT, Nat.reduceLeDiff, true_or, or_true, false_or, or_false, not_true_eq_false, not_false_eq_true, true_imp_iff, false_imp_iff, and_self, wrd, u2, and_true, true_and, and_false, false_and, and_self, ite_true, ite_false, reduceIte]
                  (repeat' (first | (with_reducible refine And.intro ?_ ?_) | (with_reducible intro _)))
                  all_goals first | omega | exact back
        have F1 : Fr rF1 (fun _ => False) 0 0 W (sFI V 658 128 (Int32.ofNat (i + 1))) := Fr_sFI hF (by omega)
        have g1 : wFI (sFI V 658 128 (Int32.ofNat (i + 1))) 658 128 = Int32.ofNat (i + 1) := by simp only [mj_cpok, mj_nn, reduceCtorEq, lg_self, Nat.not_lt_zero, Nat.zero_le, Nat.reduceEqDiff, Nat.reduceLT, Nat.reduceLeDiff, true_or, or_true, false_or, or_false, not_true_eq_false, not_false_eq_true, true_imp_iff, false_imp_iff, and_self, wrd, u2, and_true, true_and, and_false, false_and, and_self, ite_true, ite_false, reduceIte]
        generalize sFI V 658 128 (Int32.ofNat (i + 1)) = U at F1 g1
        have GU := Fr_Gr F1 G0
        have hTU := rfT_Fr F1 (by omega) (fun q => q) hT0
        have hb1 := hS (i + 1)
        simp (disch := omega) only [e_125_6, e_125_7, e_125_8, e_125_9, e_125_10, mK_v, i_lit, i_add, i_mul, i_m1, i_lt, i_le, i_eq, i_cl, i_in, i_ltN, i_Nlt, i_leN, i_Nle, i_eN, i_Ne, i_inN, i_l1, i_l2, mj_cpok, mj_nn, reduceCtorEq, lg_self, Nat.not_lt_zero, Nat.zero_le, Nat.reduceEqDiff, Nat.reduceLT, Nat.reduceLeDiff, true_or, or_true, false_or, or_false, not_true_eq_false, not_false_eq_true, true_imp_iff, false_imp_iff, and_self, wrd, u2, and_true, true_and, and_false, false_and, and_self, ite_true, ite_false, reduceIte]
        refine r_115 GU hTU g1 (by omega) (fun c => ?_) (fun c => ?_)
        · have e40 : i + 1 = 40 := c.1
          have hsp : sp1 (sgn n B) i = .inr (i + 1, bit1 (sgn n B i - 97)) := by
            unfold sp1
            rw [if_pos c0, e40, sgn40, if_neg (by decide)]
          rw [hsp] at k0
          dsimp only at k0
          have kk := k0 U 40 (by rw [e40]; unfold spT; rw [sgn40]; rfl) F1 (by rw [g1, e40])
          show mK (d + 3) 125 10 13 _ _ Q _ _
          rw [mK_x (by decide +kernel)]
          exact kk
        · by_cases c1 : sgn n B (i + 1) = 45
          · rw [c1, show sgI 45 = Int32.ofNat 45 from rfl]
            have F2 : Fr rF1 (fun _ => False) 0 0 W (sFI U 658 128 (Int32.ofNat (i + 2))) := Fr_sFI F1 (by omega)
            have g2 : wFI (sFI U 658 128 (Int32.ofNat (i + 2))) 658 128 = Int32.ofNat (i + 2) := by simp only [mj_cpok, mj_nn, reduceCtorEq, lg_self, Nat.not_lt_zero, Nat.zero_le, Nat.reduceEqDiff, Nat.reduceLT, Nat.reduceLeDiff, true_or, or_true, false_or, or_false, not_true_eq_false, not_false_eq_true, true_imp_iff, false_imp_iff, and_self, wrd, u2, and_true, true_and, and_false, false_and, and_self, ite_true, ite_false, reduceIte]
            simp (disch := omega) only [e_125_13, e_125_15, e_125_18, e_125_19, e_125_20, e_125_23, e_125_24, e_125_25, e_125_28, e_125_29, mK_v, i_lit, i_add, i_mul, i_m1, i_lt, i_le, i_eq, i_cl, i_in, i_ltN, i_Nlt, i_leN, i_Nle, i_eN, i_Ne, i_inN, i_l1, i_l2, mj_cpok, mj_nn, reduceCtorEq, lg_self, Nat.not_lt_zero, Nat.zero_le, Nat.reduceEqDiff, Nat.reduceLT, Nat.reduceLeDiff, true_or, or_true, false_or, or_false, not_true_eq_false, not_false_eq_true, true_imp_iff, false_imp_iff, and_self, wrd, u2, and_true, true_and, and_false, false_and, and_self, ite_true, ite_false, reduceIte, g1, show i + 1 + 1 = i + 2 from rfl]
            (repeat' (first | (with_reducible refine And.intro ?_ ?_) | (with_reducible intro _)))
            all_goals try omega
            generalize sFI U 658 128 (Int32.ofNat (i + 2)) = U2 at F2 g2 ⊢
            have GU2 := Fr_Gr F2 G0
            have hTU2 := rfT_Fr F2 (by omega) (fun q => q) hT0
            have hb2 := hS (i + 2)
            refine r_124 (d := d) GU2 hTU2 g2 (by omega) (fun c2 => ?_) (fun c2 => ?_)
            · have hsp : sp1 (sgn n B) i = .inr (i + 3, spM (sgn n B i - 97) (sgn n B (i + 2) - 97) 8) := by
                unfold sp1
                rw [if_pos c0, if_pos c1, if_pos c2]
              have hsp' : sp1 (sgn n B) i = .inr (i + 3, if sgn n B i - 97 = sgn n B (i + 2) - 97 then bit1 (sgn n B i - 97) else spM (sgn n B i - 97) (sgn n B (i + 2) - 97) 8) := by
                rw [hsp]
                by_cases c : sgn n B i - 97 = sgn n B (i + 2) - 97
                · rw [if_pos c, ← c]
                  congr 2
                  refine bt_ext fun q hq => ?_
                  rw [Bool.eq_iff_iff, spM_bt (Nat.le_refl _), bit1_bt (by omega), decide_eq_true_eq]
                  omega
                · rw [if_neg c]
              have nn := aft (sFI U2 658 128 (Int32.ofNat (i + 2 + 1))) (i + 3) (sgn n B i - 97) (sgn n B (i + 2) - 97) x4 hsp' (by omega) (by omega) (by omega) (by omega) (Fr_sFI F2 (by omega)) (by simp only [mj_cpok, mj_nn, reduceCtorEq, lg_self, Nat.not_lt_zero, Nat.zero_le, Nat.reduceEqDiff, Nat.reduceLT, Nat.reduceLeDiff, true_or, or_true, false_or, or_false, not_true_eq_false, not_false_eq_true, true_imp_iff, false_imp_iff, and_self, wrd, u2, and_true, true_and, and_false, false_and, and_self, ite_true, ite_false, reduceIte])
              simp (disch := omega) only [e_125_32, mK_v, i_lit, i_add, i_mul, i_m1, i_lt, i_le, i_eq, i_cl, i_in, i_ltN, i_Nlt, i_leN, i_Nle, i_eN, i_Ne, i_inN, i_l1, i_l2, mj_cpok, mj_nn, reduceCtorEq, lg_self, Nat.not_lt_zero, Nat.zero_le, Nat.reduceEqDiff, Nat.reduceLT, Nat.reduceLeDiff, true_or, or_true, false_or, or_false, not_true_eq_false, not_false_eq_true, true_imp_iff, false_imp_iff, and_self, wrd, u2, and_true, true_and, and_false, false_and, and_self, ite_true, ite_false, reduceIte]
              exact nn
            · have hsp : sp1 (sgn n B) i = .inl (i + 2) := by
                unfold sp1
                rw [if_pos c0, if_pos c1, if_neg c2]
              rw [hsp] at k0
              have kk := k0 U2 (i + 2) rfl F2 g2
              show mK (d + 3) 125 29 32 _ _ Q _ _
              rw [mK_x (by decide +kernel)]
              exact kk
          · have hsp : sp1 (sgn n B) i = .inr (i + 1, if sgn n B i - 97 = sgn n B i - 97 then bit1 (sgn n B i - 97) else spM (sgn n B i - 97) (sgn n B i - 97) 8) := by
              unfold sp1
              rw [if_pos c0, if_neg c1, if_pos rfl]
            have nn := aft U (i + 1) (sgn n B i - 97) (sgn n B i - 97) x4 hsp (by omega) (by omega) (by omega) (by omega) F1 g1
            by_cases c9 : sgn n B (i + 1) = 256
            · rw [c9, sgI_e]
              simp (disch := omega) only [e_125_13, e_125_15, mK_v, i_lit, i_add, i_mul, i_m1, i_lt, i_le, i_eq, i_cl, i_in, i_ltN, i_Nlt, i_leN, i_Nle, i_eN, i_Ne, i_inN, i_l1, i_l2, mj_cpok, mj_nn, reduceCtorEq, lg_self, Nat.not_lt_zero, Nat.zero_le, Nat.reduceEqDiff, Nat.reduceLT, Nat.reduceLeDiff, true_or, or_true, false_or, or_false, not_true_eq_false, not_false_eq_true, true_imp_iff, false_imp_iff, and_self, wrd, u2, and_true, true_and, and_false, false_and, and_self, ite_true, ite_false, reduceIte]
              (repeat' (first | (with_reducible refine And.intro ?_ ?_) | (with_reducible intro _)))
              all_goals first | omega | exact nn
            · rw [sgI_n c9]
              simp (disch := omega) only [e_125_13, e_125_15, mK_v, i_lit, i_add, i_mul, i_m1, i_lt, i_le, i_eq, i_cl, i_in, i_ltN, i_Nlt, i_leN, i_Nle, i_eN, i_Ne, i_inN, i_l1, i_l2, mj_cpok, mj_nn, reduceCtorEq, lg_self, Nat.not_lt_zero, Nat.zero_le, Nat.reduceEqDiff, Nat.reduceLT, Nat.reduceLeDiff, true_or, or_true, false_or, or_false, not_true_eq_false, not_false_eq_true, true_imp_iff, false_imp_iff, and_self, wrd, u2, and_true, true_and, and_false, false_and, and_self, ite_true, ite_false, reduceIte]
              (repeat' (first | (with_reducible refine And.intro ?_ ?_) | (with_reducible intro _)))
              all_goals first | omega | exact nn
      · have hsp : sp1 (sgn n B) i = .inl i := by
          unfold sp1
          rw [if_neg c0]
        rw [hsp] at k0
        have kk := k0 V i rfl hF hV
        show mK (d + 3) 125 3 6 _ _ Q _ _
        rw [mK_x (by decide +kernel)]
        exact kk
  have nn := loop 40 i (Int32.ofNat 0) W none none none (by omega) hi Fr_refl h1 K1 K0
  simp (disch := omega) only [e_125_0, e_125_1, i_lit, i_add, i_mul, i_m1, i_lt, i_le, i_eq, i_cl, i_in, i_ltN, i_Nlt, i_leN, i_Nle, i_eN, i_Ne, i_inN, i_l1, i_l2, mj_cpok, mj_nn, reduceCtorEq, lg_self, Nat.not_lt_zero, Nat.zero_le, Nat.reduceEqDiff, Nat.reduceLT, Nat.reduceLeDiff, true_or, or_true, false_or, or_false, not_true_eq_false, not_false_eq_true, true_imp_iff, false_imp_iff, and_self, wrd, u2, and_true, true_and, and_false, false_and, and_self, ite_true, ite_false, reduceIte]
  exact nn
end RF
