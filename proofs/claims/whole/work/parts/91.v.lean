/-! addRule: the reference's reader, choices, at every depth. -/
section RF
variable {d : Nat} {n r dep : Nat} {B : Nat → Nat}
theorem r_117l {I : PRd} (hr : r < 12) (hIp : pRdOk I) (hI : rfOk n B r dep 119 (d + 6) [some (vR (some (10, 0, 128))), none, none, none] I) {W : MWd} (G : Gr W) (hT : rfT W n B) {Q : MRes → MWd → Prop} :
    ∀ (k i np : Nat) (fo lt : Nat → Int32) (f l : Int32) (e : Bool) (V : MWd), 40 ≤ i + k → i ≤ 40 → np ≤ 30 → (∀ p, np ≤ p → fo p = Int32.ofNat 0) → Fr rF rA 0 0 W V → rfU W V r → rfR V r i np dep fo lt → rfK n Q W r dep (eitL (sgn n B) I k (i, np, fo, lt, f, l, e)) →
      mR (d + 7) V 117 19 [some (vR (some (10, 0, 128))), some (vI f), some (vI l), some (vI (b2 e))] [] Q := by
  have hS : sgOk (sgn n B) := sgn_ok (fun i hi => (hT.2.2 i hi).1)
  -- the end of the loop
  have out : ∀ (i np : Nat) (fo lt : Nat → Int32) (f l : Int32) (e : Bool) (V : MWd), i ≤ 40 → sgn n B i ≠ 124 → Fr rF rA 0 0 W V → rfU W V r → rfR V r i np dep fo lt → (i = 40 ∧ 40 < n → rfE Q W r 40) → (¬ (i = 40 ∧ 40 < n) → rfO Q W r dep (i, np, fo, lt, f, l, e)) →
      mR (d + 7) V 117 19 [some (vR (some (10, 0, 128))), some (vI f), some (vI l), some (vI (b2 e))] [] Q := by
    intro i np fo lt f l e V hi hne hF hU hR k1 k2
    have GV := Fr_Gr hF G
    have TV := rfT_Fr hF (by omega) (by omega) hT
    have hb := hS i
    rw [e_117_19]
    simp (disch := omega) only [e_117_20, i_lit, i_add, i_mul, i_m1, i_lt, i_le, i_eq, i_cl, i_in, i_ltN, i_Nlt, i_leN, i_Nle, i_eN, i_Ne, i_inN, i_l1, i_l2, mj_cpok, mj_nn, reduceCtorEq, lg_self, Nat.not_lt_zero, Nat.zero_le, Nat.reduceEqDiff, Nat.reduceLT, Nat.reduceLeDiff, true_or, or_true, false_or, or_false, not_true_eq_false, not_false_eq_true, true_imp_iff, false_imp_iff, and_self, wrd, u2, and_true, true_and, and_false, false_and, and_self, ite_true, ite_false, reduceIte]
    refine r_115 GV TV hR.1 hi (fun c => ?_) (fun c => ?_)
    · show mK (d + 7) 117 20 23 _ _ Q _ _
      rw [mK_x (by decide +kernel)]
      have e40 : i = 40 := c.1
      exact rfE_thr G (k1 c) hF hU (by rw [hR.1, e40])
    · have FX : Fr (fun k a => a = 128 ∧ 660 ≤ k ∧ k ≤ 662) (fun _ => False) 0 0 V (sFI (sFI (sFI V 660 128 f) 661 128 l) 662 128 (b2 e)) := Fr_sFI (Fr_sFI (Fr_sFI Fr_refl (by omega)) (by omega)) (by omega)
      have k0 := k2 c (sFI (sFI (sFI V 660 128 f) 661 128 l) 662 128 (b2 e)) (Fr_trans (x := 0) (y := 0) hF (Fr_weak FX (fun _ _ q => by omega) (fun _ q => q.elim) (Nat.le_refl _) (Nat.le_refl _))) (rfU_tr hU (rfU_Fr FX ⟨fun q => q, fun q => q, fun q => q⟩)) (by
        obtain ⟨a1, a2, a3, a4, a5⟩ := hR
        exact ⟨(Fr_fi FX (by decide) (by omega)).trans a1, (Fr_fi FX (by decide) (by omega)).trans a2, (Fr_fi FX (by decide) (by omega)).trans a3, a4, a5⟩) (by simp only [mj_cpok, mj_nn, reduceCtorEq, lg_self, Nat.not_lt_zero, Nat.zero_le, Nat.reduceEqDiff, Nat.reduceLT, Nat.reduceLeDiff, true_or, or_true, false_or, or_false, not_true_eq_false, not_false_eq_true, true_imp_iff, false_imp_iff, and_self, wrd, u2, and_true, true_and, and_false, false_and, and_self, ite_true, ite_false, reduceIte]) (by simp only [mj_cpok, mj_nn, reduceCtorEq, lg_self, Nat.not_lt_zero, Nat.zero_le, Nat.reduceEqDiff, Nat.reduceLT, Nat.reduceLeDiff, true_or, or_true, false_or, or_false, not_true_eq_false, not_false_eq_true, true_imp_iff, false_imp_iff, and_self, wrd, u2, and_true, true_and, and_false, false_and, and_self, ite_true, ite_false, reduceIte]) (by simp only [mj_cpok, mj_nn, reduceCtorEq, lg_self, Nat.not_lt_zero, Nat.zero_le, Nat.reduceEqDiff, Nat.reduceLT, Nat.reduceLeDiff, true_or, or_true, false_or, or_false, not_true_eq_false, not_false_eq_true, true_imp_iff, false_imp_iff, and_self, wrd, u2, and_true, true_and, and_false, false_and, and_self, ite_true, ite_false, reduceIte])
      have hbe : b2 e = Int32.ofNat 0 ∨ b2 e = Int32.ofNat 1 := b2_01 e
      by_cases c9 : sgn n B i = 256
      · rw [c9, sgI_e]
        simp (disch := omega) only [e_117_23, e_117_25, e_117_76, e_117_77, e_117_78, e_117_81, e_117_82, e_117_83, e_117_86, e_117_87, e_117_88, e_117_91, i_lit, i_add, i_mul, i_m1, i_lt, i_le, i_eq, i_cl, i_in, i_ltN, i_Nlt, i_leN, i_Nle, i_eN, i_Ne, i_inN, i_l1, i_l2, mj_cpok, mj_nn, reduceCtorEq, lg_self, Nat.not_lt_zero, Nat.zero_le, Nat.reduceEqDiff, Nat.reduceLT, Nat.reduceLeDiff, true_or, or_true, false_or, or_false, not_true_eq_false, not_false_eq_true, true_imp_iff, false_imp_iff, and_self, wrd, u2, and_true, true_and, and_false, false_and, and_self, ite_true, ite_false, reduceIte, mK_v]
        (repeat' (first | (with_reducible refine And.intro ?_ ?_) | (with_reducible intro _)))
        all_goals first | omega | exact k0 | exact hbe
      · rw [sgI_n c9]
        simp (disch := omega) only [e_117_23, e_117_25, e_117_76, e_117_77, e_117_78, e_117_81, e_117_82, e_117_83, e_117_86, e_117_87, e_117_88, e_117_91, i_lit, i_add, i_mul, i_m1, i_lt, i_le, i_eq, i_cl, i_in, i_ltN, i_Nlt, i_leN, i_Nle, i_eN, i_Ne, i_inN, i_l1, i_l2, mj_cpok, mj_nn, reduceCtorEq, lg_self, Nat.not_lt_zero, Nat.zero_le, Nat.reduceEqDiff, Nat.reduceLT, Nat.reduceLeDiff, true_or, or_true, false_or, or_false, not_true_eq_false, not_false_eq_true, true_imp_iff, false_imp_iff, and_self, wrd, u2, and_true, true_and, and_false, false_and, and_self, ite_true, ite_false, reduceIte, mK_v]
        (repeat' (first | (with_reducible refine And.intro ?_ ?_) | (with_reducible intro _)))
        all_goals first | omega | exact k0 | exact hbe
  intro k
  induction k with
  | zero =>
    intro i np fo lt f l e V hk hi hn hf hF hU hR K
    have e40 : i = 40 := by omega
    subst e40
    exact out 40 np fo lt f l e V hi (by rw [sgn40]; decide) hF hU hR K.1 K.2
  | succ k ih =>
    intro i np fo lt f l e V hk hi hn hf hF hU hR K
    by_cases c : sgn n B i = 124
    · unfold eitL at K
      rw [if_pos c] at K
      have GV := Fr_Gr hF G
      have TV := rfT_Fr hF (by omega) (by omega) hT
      have hb := hS i
      have hi2 : i < 40 := by omega
      have hok := hIp (i + 1) np fo lt (by omega) hn hf
      have F1 : Fr rF1 (fun _ => False) 0 0 V (sFI V 658 128 (Int32.ofNat (i + 1))) := Fr_sFI Fr_refl (by omega)
      have g1 : wFI (sFI V 658 128 (Int32.ofNat (i + 1))) 658 128 = Int32.ofNat (i + 1) := by simp only [mj_cpok, mj_nn, reduceCtorEq, lg_self, Nat.not_lt_zero, Nat.zero_le, Nat.reduceEqDiff, Nat.reduceLT, Nat.reduceLeDiff, true_or, or_true, false_or, or_false, not_true_eq_false, not_false_eq_true, true_imp_iff, false_imp_iff, and_self, wrd, u2, and_true, true_and, and_false, false_and, and_self, ite_true, ite_false, reduceIte]
      have h658 := hR.1
      rw [e_117_19]
      simp (disch := omega) only [e_117_20, i_lit, i_add, i_mul, i_m1, i_lt, i_le, i_eq, i_cl, i_in, i_ltN, i_Nlt, i_leN, i_Nle, i_eN, i_Ne, i_inN, i_l1, i_l2, mj_cpok, mj_nn, reduceCtorEq, lg_self, Nat.not_lt_zero, Nat.zero_le, Nat.reduceEqDiff, Nat.reduceLT, Nat.reduceLeDiff, true_or, or_true, false_or, or_false, not_true_eq_false, not_false_eq_true, true_imp_iff, false_imp_iff, and_self, wrd, u2, and_true, true_and, and_false, false_and, and_self, ite_true, ite_false, reduceIte]
      refine r_115 GV TV hR.1 hi (fun c' => by omega) (fun _ => ?_)
      rw [c, show sgI 124 = Int32.ofNat 124 from rfl]
      simp (disch := omega) only [e_117_23, e_117_25, e_117_28, e_117_29, e_117_30, e_117_33, e_117_34, e_117_35, e_117_38, e_117_39, i_lit, i_add, i_mul, i_m1, i_lt, i_le, i_eq, i_cl, i_in, i_ltN, i_Nlt, i_leN, i_Nle, i_eN, i_Ne, i_inN, i_l1, i_l2, mj_cpok, mj_nn, reduceCtorEq, lg_self, Nat.not_lt_zero, Nat.zero_le, Nat.reduceEqDiff, Nat.reduceLT, Nat.reduceLeDiff, true_or, or_true, false_or, or_false, not_true_eq_false, not_false_eq_true, true_imp_iff, false_imp_iff, and_self, wrd, u2, and_true, true_and, and_false, false_and, and_self, ite_true, ite_false, reduceIte, mK_v, h658]
      (repeat' (first | (with_reducible refine And.intro ?_ ?_) | (with_reducible intro _)))
      all_goals try omega
      generalize sFI V 658 128 (Int32.ofNat (i + 1)) = V1 at F1 g1 ⊢
      have FW1 : Fr rF rA 0 0 W V1 := Fr_trans (x := 0) (y := 0) hF (rF1_w F1)
      have UW1 : rfU W V1 r := rfU_tr hU (rfU_Fr F1 ⟨fun q => q, fun q => q, fun q => q⟩)
      refine hI V1 (i + 1) np fo lt _ (Fr_Gr F1 GV) (rfT_Fr FW1 (by omega) (by omega) hT) (rfR_F1 F1 hR g1) (by omega) hn hf ?_
      have hx : ∀ p V, Q (.inr (3, some p)) V → mK (d + 7) 117 39 42 [some (vR (some (10, 0, 128))), some (vI f), some (vI l), some (vI (b2 e))] [] Q (.inr (3, some p)) V := fun p V h => by
        rw [mK_x (by decide +kernel)]; exact h
      cases hy : I (i + 1) np fo lt with
      | inl er =>
        rw [hy] at K
        exact rfE_tr FW1 UW1 hx K
      | inr y =>
        obtain ⟨i', np', fo', lt', f', l', e'⟩ := y
        rw [hy] at K hok
        dsimp only at K
        obtain ⟨o1, o2, o3, o4, o5, o6, o7, o8, o9⟩ := hok
        refine ⟨fun c' => ?_, fun c' => ?_⟩
        · rw [eitL_40 sgn40 (show (jnE f l e (i', np', fo', lt', f', l', e')).1 = 40 from c'.1)] at K
          exact rfE_tr FW1 UW1 hx (K.1 c')
        · intro V2 hV2 hVU2 hR2 w60 w61 w62
          have F2 : Fr rF rA 0 0 W V2 := Fr_trans (x := 0) (y := 0) FW1 hV2
          have U2 : rfU W V2 r := rfU_tr UW1 hVU2
          have nn := ih i' np' fo' lt' (f ||| f') (l ||| l') (e || e') V2 (by omega) o2 o4 o7 F2 U2 hR2 K
          cases e <;> cases e' <;> simp only [b2, Bool.false_eq_true, if_true, if_false, Bool.or_false, Bool.false_or, Bool.or_true, Bool.true_or, Bool.or_self] at nn w62
          all_goals
            simp (disch := omega) only [e_117_42, e_117_43, e_117_44, e_117_47, e_117_48, e_117_49, e_117_50, e_117_51, e_117_54, e_117_55, e_117_56, e_117_57, e_117_60, e_117_61, e_117_64, e_117_67, e_117_68, e_117_71, e_117_72, e_117_73, i_lit, i_add, i_mul, i_m1, i_lt, i_le, i_eq, i_cl, i_in, i_ltN, i_Nlt, i_leN, i_Nle, i_eN, i_Ne, i_inN, i_l1, i_l2, mj_cpok, mj_nn, reduceCtorEq, lg_self, Nat.not_lt_zero, Nat.zero_le, Nat.reduceEqDiff, Nat.reduceLT, Nat.reduceLeDiff, true_or, or_true, false_or, or_false, not_true_eq_false, not_false_eq_true, true_imp_iff, false_imp_iff, and_self, wrd, u2, and_true, true_and, and_false, false_and, and_self, ite_true, ite_false, reduceIte, mK_n, w60, w61, w62, b2, Bool.false_eq_true]
            (repeat' (first | (with_reducible refine And.intro ?_ ?_) | (with_reducible intro _)))
            all_goals first | omega | exact nn
    · unfold eitL at K
      rw [if_neg c] at K
      exact out i np fo lt f l e V hi c hF hU hR K.1 K.2
theorem r_117 {I : PRd} (hr : r < 12) (hIp : pRdOk I) (hI : rfOk n B r dep 119 (d + 6) [some (vR (some (10, 0, 128))), none, none, none] I) :
    rfOk n B r dep 117 (d + 7) [some (vR (some (10, 0, 128))), none, none, none] (eitP (sgn n B) I) := by
  intro W i np fo lt Q G hT hW hi hn hf K
  have hok := hIp i np fo lt hi hn hf
  unfold eitP at K
  have hx : ∀ p V, Q (.inr (3, some p)) V → mK (d + 7) 117 1 4 [some (vR (some (10, 0, 128))), none, none, none] [] Q (.inr (3, some p)) V := fun p V h => by
    rw [mK_x (by decide +kernel)]; exact h
  simp (disch := omega) only [e_117_0, e_117_1, i_lit, i_add, i_mul, i_m1, i_lt, i_le, i_eq, i_cl, i_in, i_ltN, i_Nlt, i_leN, i_Nle, i_eN, i_Ne, i_inN, i_l1, i_l2, mj_cpok, mj_nn, reduceCtorEq, lg_self, Nat.not_lt_zero, Nat.zero_le, Nat.reduceEqDiff, Nat.reduceLT, Nat.reduceLeDiff, true_or, or_true, false_or, or_false, not_true_eq_false, not_false_eq_true, true_imp_iff, false_imp_iff, and_self, wrd, u2, and_true, true_and, and_false, false_and, and_self, ite_true, ite_false, reduceIte]
  refine hI W i np fo lt _ G hT hW hi hn hf ?_
  cases hy : I i np fo lt with
  | inl er =>
    rw [hy] at K
    exact rfE_tr Fr_refl rfU_refl hx K
  | inr y =>
    obtain ⟨i', np', fo', lt', f, l, e⟩ := y
    rw [hy] at K hok
    have K' : rfK n Q W r dep (eitL (sgn n B) I 40 (i', np', fo', lt', f, l, e)) := K
    refine ⟨fun c => ?_, fun c => ?_⟩
    · rw [eitL_40 sgn40 c.1] at K'
      exact rfE_tr Fr_refl rfU_refl hx (K'.1 c)
    · intro V hV hVU hR v60 v61 v62
      have nn := r_117l hr hIp hI G hT 40 i' np' fo' lt' f l e V (by omega) hok.2.1 hok.2.2.2.1 hok.2.2.2.2.2.2.1 hV hVU hR K'
      simp (disch := omega) only [e_117_4, e_117_5, e_117_8, e_117_9, e_117_10, e_117_13, e_117_14, e_117_15, e_117_18, i_lit, i_add, i_mul, i_m1, i_lt, i_le, i_eq, i_cl, i_in, i_ltN, i_Nlt, i_leN, i_Nle, i_eN, i_Ne, i_inN, i_l1, i_l2, mj_cpok, mj_nn, reduceCtorEq, lg_self, Nat.not_lt_zero, Nat.zero_le, Nat.reduceEqDiff, Nat.reduceLT, Nat.reduceLeDiff, true_or, or_true, false_or, or_false, not_true_eq_false, not_false_eq_true, true_imp_iff, false_imp_iff, and_self, wrd, u2, and_true, true_and, and_false, false_and, and_self, ite_true, ite_false, reduceIte, mK_n, v60, v61, v62]
      exact nn
/-- the reader of the reference, at every depth of groups -/
theorem r_G (hr : r < 12) (hS : sgOk (sgn n B)) : ∀ (g d dep : Nat), dep + g = 6 → rfOk n B r dep 117 (d + 4 * g + 7) [some (vR (some (10, 0, 128))), none, none, none] (eitG (sgn n B) g)
  | 0, d, dep, h => by
    have a := atomP_ok hS (sub := none) (fun R h => by cases h)
    exact r_117 hr (rowP_ok hS (itemP_ok hS a)) (r_119 hr (itemP_ok hS a) (r_121 hr a (r_123 hr (Or.inl ⟨by omega, rfl⟩))))
  | g + 1, d, dep, h => by
    have ih := r_G hr hS g d (dep + 1) (by omega)
    have a := atomP_ok hS (sub := some (eitG (sgn n B) g)) (fun R h => by cases h; exact eitG_ok hS g)
    have e : d + 4 * (g + 1) + 7 = (d + 4 * g + 4) + 7 := by omega
    rw [e]
    exact r_117 hr (rowP_ok hS (itemP_ok hS a)) (r_119 hr (itemP_ok hS a) (r_121 hr a (r_123 hr (Or.inr ⟨by omega, eitG (sgn n B) g, rfl, eitG_ok hS g, ih⟩))))
end RF
