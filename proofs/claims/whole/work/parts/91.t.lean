/-! addRule: the reference's reader, items. -/
def rfKb (n : Nat) (Q : MRes → MWd → Prop) (W : MWd) (r dep : Nat) : PRes → Prop
  | .inl e => rfE Q W r e
  | .inr y => (y.1 = 40 ∧ 40 < n → rfE Q W r 40) ∧ rfO Q W r dep y
def rfOkb (n : Nat) (B : Nat → Nat) (r dep M D : Nat) (args : List (Option MV)) (R : PRd) : Prop := ∀ (W : MWd) (i np : Nat) (fo lt : Nat → Int32) (Q : MRes → MWd → Prop), Gr W → rfT W n B → rfR W r i np dep fo lt → i ≤ 40 → np ≤ 30 → (∀ p, np ≤ p → fo p = Int32.ofNat 0) → rfKb n Q W r dep (R i np fo lt) → mR D W M 0 args [] Q
section RF
variable {d : Nat} {n r dep : Nat} {B : Nat → Nat}
theorem r_121 {A : PRd} (hr : r < 12) (hAp : pRdOk A) (hA : rfOka n B r dep 123 (d + 4) [some (vR (some (10, 0, 128))), none, none] A) :
    rfOkb n B r dep 121 (d + 5) [some (vR (some (10, 0, 128))), none] (itemP (sgn n B) A) := by
  intro W i np fo lt Q G hT hW hi hn hf K
  have hS : sgOk (sgn n B) := sgn_ok (fun i hi => (hT.2.2 i hi).1)
  unfold itemP at K
  have hok := hAp i np fo lt hi hn hf
  simp (disch := omega) only [e_121_0, e_121_1, e_121_4, e_121_5, e_121_8, e_121_9, e_121_10, e_121_12, e_121_15, e_121_16, e_121_18, e_121_21, e_121_22, e_121_24, e_121_27, e_121_28, e_121_29, e_121_30, e_121_33, e_121_34, e_121_35, e_121_38, e_121_39, e_121_41, e_121_44, e_121_45, e_121_46, e_121_49, e_121_50, e_121_53, e_121_56, e_121_57, e_121_58, e_121_61, e_121_64, e_121_65, e_121_67, e_121_70, e_121_71, e_121_74, e_121_75, e_121_78, i_lit, i_add, i_mul, i_m1, i_lt, i_le, i_eq, i_cl, i_in, i_ltN, i_Nlt, i_leN, i_Nle, i_eN, i_Ne, i_inN, i_l1, i_l2, mj_cpok, mj_nn, reduceCtorEq, lg_self, Nat.not_lt_zero, Nat.zero_le, Nat.reduceEqDiff, Nat.reduceLT, Nat.reduceLeDiff, true_or, or_true, false_or, or_false, not_true_eq_false, not_false_eq_true, true_imp_iff, false_imp_iff, and_self, wrd, u2, and_true, true_and, and_false, false_and, and_self, ite_true, ite_false, reduceIte]
  refine hA W i np fo lt _ G hT hW hi hn hf ?_
  cases hx : A i np fo lt with
  | inl e =>
    rw [hx] at K
    exact rfE_tr Fr_refl rfU_refl (fun p V h => by rw [mK_x (by decide +kernel)]; exact h) K
  | inr y =>
    obtain ⟨i', np', fo', lt', f, l, e⟩ := y
    rw [hx] at K hok
    obtain ⟨o1, o2, o3, o4, o5, o6, o7, o8, o9⟩ := hok
    unfold opP at K
    dsimp only at K
    intro V hV hVU hR2 v60 v61 v62
    have hR3 := hR2
    obtain ⟨r1, r2, r3, r4, r5⟩ := hR2
    have GV := Fr_Gr hV G
    have TV := rfT_Fr hV (by omega) (by omega) hT
    have hb := hS i'
    simp (disch := omega) only [e_121_0, e_121_1, e_121_4, e_121_5, e_121_8, e_121_9, e_121_10, e_121_12, e_121_15, e_121_16, e_121_18, e_121_21, e_121_22, e_121_24, e_121_27, e_121_28, e_121_29, e_121_30, e_121_33, e_121_34, e_121_35, e_121_38, e_121_39, e_121_41, e_121_44, e_121_45, e_121_46, e_121_49, e_121_50, e_121_53, e_121_56, e_121_57, e_121_58, e_121_61, e_121_64, e_121_65, e_121_67, e_121_70, e_121_71, e_121_74, e_121_75, e_121_78, i_lit, i_add, i_mul, i_m1, i_lt, i_le, i_eq, i_cl, i_in, i_ltN, i_Nlt, i_leN, i_Nle, i_eN, i_Ne, i_inN, i_l1, i_l2, mj_cpok, mj_nn, reduceCtorEq, lg_self, Nat.not_lt_zero, Nat.zero_le, Nat.reduceEqDiff, Nat.reduceLT, Nat.reduceLeDiff, true_or, or_true, false_or, or_false, not_true_eq_false, not_false_eq_true, true_imp_iff, false_imp_iff, and_self, wrd, u2, and_true, true_and, and_false, false_and, and_self, ite_true, ite_false, reduceIte, mK_n]
    refine r_115 GV TV r1 o2 (fun c => ?_) (fun c => ?_)
    · have e40 : i' = 40 := c.1
      subst e40
      rw [sgn40, if_neg (by decide), if_neg (by decide), if_neg (by decide)] at K
      show mK (d + 5) 121 5 8 _ _ Q _ _
      rw [mK_x (by decide +kernel)]
      exact rfE_thr G (K.1 ⟨rfl, c.2⟩) hV hVU r1
    · have F1 : Fr rF1 (fun _ => False) 0 0 V (sFI V 658 128 (Int32.ofNat (i' + 1))) := Fr_sFI Fr_refl (by omega)
      have g1 : wFI (sFI V 658 128 (Int32.ofNat (i' + 1))) 658 128 = Int32.ofNat (i' + 1) := by simp only [mj_cpok, mj_nn, reduceCtorEq, lg_self, Nat.not_lt_zero, Nat.zero_le, Nat.reduceEqDiff, Nat.reduceLT, Nat.reduceLeDiff, true_or, or_true, false_or, or_false, not_true_eq_false, not_false_eq_true, true_imp_iff, false_imp_iff, and_self, wrd, u2, and_true, true_and, and_false, false_and, and_self, ite_true, ite_false, reduceIte]
      have R1 := rfR_F1 F1 hR3 g1
      have w60 : wFI (sFI V 658 128 (Int32.ofNat (i' + 1))) 660 128 = f := by simp only [mj_cpok, mj_nn, reduceCtorEq, lg_self, Nat.not_lt_zero, Nat.zero_le, Nat.reduceEqDiff, Nat.reduceLT, Nat.reduceLeDiff, true_or, or_true, false_or, or_false, not_true_eq_false, not_false_eq_true, true_imp_iff, false_imp_iff, and_self, wrd, u2, and_true, true_and, and_false, false_and, and_self, ite_true, ite_false, reduceIte]; exact v60
      have w61 : wFI (sFI V 658 128 (Int32.ofNat (i' + 1))) 661 128 = l := by simp only [mj_cpok, mj_nn, reduceCtorEq, lg_self, Nat.not_lt_zero, Nat.zero_le, Nat.reduceEqDiff, Nat.reduceLT, Nat.reduceLeDiff, true_or, or_true, false_or, or_false, not_true_eq_false, not_false_eq_true, true_imp_iff, false_imp_iff, and_self, wrd, u2, and_true, true_and, and_false, false_and, and_self, ite_true, ite_false, reduceIte]; exact v61
      have w62 : wFI (sFI V 658 128 (Int32.ofNat (i' + 1))) 662 128 = b2 e := by simp only [mj_cpok, mj_nn, reduceCtorEq, lg_self, Nat.not_lt_zero, Nat.zero_le, Nat.reduceEqDiff, Nat.reduceLT, Nat.reduceLeDiff, true_or, or_true, false_or, or_false, not_true_eq_false, not_false_eq_true, true_imp_iff, false_imp_iff, and_self, wrd, u2, and_true, true_and, and_false, false_and, and_self, ite_true, ite_false, reduceIte]; exact v62
      have FW1 : Fr rF rA 0 0 W (sFI V 658 128 (Int32.ofNat (i' + 1))) := Fr_trans (x := 0) (y := 0) hV (rF1_w F1)
      have UW1 : rfU W (sFI V 658 128 (Int32.ofNat (i' + 1))) r := rfU_tr hVU (rfU_Fr F1 ⟨fun q => q, fun q => q, fun q => q⟩)
      -- the link of * and +
      have lk : ∀ (c : Nat) (e2 : Bool) (rest : List MV), (c = 42 ∧ e2 = true ∨ c = 43 ∧ e2 = e) → rfO Q W r dep (i' + 1, np', lkF fo' l f, lt', f, l, e2) → mR (d + 4) (sFI V 658 128 (Int32.ofNat (i' + 1))) 120 0 [some (vR (some (10, 0, 128))), some (vI l), some (vI f), none] [] (mK (d + 5) 121 53 56 [some (vR (some (10, 0, 128))), some (vI (Int32.ofNat c))] [] Q) := by
        intro c e2 rest hce k
        generalize sFI V 658 128 (Int32.ofNat (i' + 1)) = V1 at F1 g1 R1 w60 w61 w62 FW1 UW1
        refine r_120 (Fr_Gr F1 GV) hr R1.2.2.1 (fun U hU uj up => ?_)
        have FU : Fr rF rA 0 0 W U := Fr_trans (x := 0) (y := 0) FW1 (Fr_weak hU (fun _ _ q => q.elim) (fun _ q => by omega) (Nat.le_refl _) (Nat.le_refl _))
        have UU : rfU W U r := rfU_tr UW1 ⟨fun j hj => by rw [Fr_ai hU (by decide) (by omega)], fun j hj => ⟨by rw [Fr_ai hU (by decide) (by omega)], uj j hj⟩⟩
        have x60 := (Fr_fi (k := 660) (a := 128) hU (by decide) (fun q => q)).trans w60
        have x61 := (Fr_fi (k := 661) (a := 128) hU (by decide) (fun q => q)).trans w61
        have x62 := (Fr_fi (k := 662) (a := 128) hU (by decide) (fun q => q)).trans w62
        have RU : rfR U r (i' + 1) np' dep (lkF fo' l f) lt' := by
          obtain ⟨a1, a2, a3, a4, a5⟩ := R1
          refine ⟨(Fr_fi hU (by decide) (fun q => q)).trans a1, (Fr_fi hU (by decide) (fun q => q)).trans a2, (Fr_fi hU (by decide) (fun q => q)).trans a3, by rw [Fr_ai hU (by decide) (by omega)]; exact a4, fun p hp => ⟨?_, ?_⟩⟩
          · rw [up p (by omega)]
            unfold lkF
            dsimp only
            rw [(a5 p hp).1]
          · rw [Fr_ai hU (by decide) (by omega)]; exact (a5 p hp).2
        have k0 := k (sFI U 662 128 (b2 e2)) (Fr_sFI FU (by omega)) (rfU_tr UU (rfU_Fr (F := fun k a => k = 662 ∧ a = 128) (R := fun _ => False) (x := 0) (y := 0) (Fr_sFI Fr_refl (by omega)) ⟨fun q => q, fun q => q, fun q => q⟩)) (by
          obtain ⟨a1, a2, a3, a4, a5⟩ := RU
          exact ⟨by simp only [mj_cpok, mj_nn, reduceCtorEq, lg_self, Nat.not_lt_zero, Nat.zero_le, Nat.reduceEqDiff, Nat.reduceLT, Nat.reduceLeDiff, true_or, or_true, false_or, or_false, not_true_eq_false, not_false_eq_true, true_imp_iff, false_imp_iff, and_self, wrd, u2, and_true, true_and, and_false, false_and, and_self, ite_true, ite_false, reduceIte]; exact a1, by simp only [mj_cpok, mj_nn, reduceCtorEq, lg_self, Nat.not_lt_zero, Nat.zero_le, Nat.reduceEqDiff, Nat.reduceLT, Nat.reduceLeDiff, true_or, or_true, false_or, or_false, not_true_eq_false, not_false_eq_true, true_imp_iff, false_imp_iff, and_self, wrd, u2, and_true, true_and, and_false, false_and, and_self, ite_true, ite_false, reduceIte]; exact a2, by simp only [mj_cpok, mj_nn, reduceCtorEq, lg_self, Nat.not_lt_zero, Nat.zero_le, Nat.reduceEqDiff, Nat.reduceLT, Nat.reduceLeDiff, true_or, or_true, false_or, or_false, not_true_eq_false, not_false_eq_true, true_imp_iff, false_imp_iff, and_self, wrd, u2, and_true, true_and, and_false, false_and, and_self, ite_true, ite_false, reduceIte]; exact a3, a4, a5⟩) (by simp only [mj_cpok, mj_nn, reduceCtorEq, lg_self, Nat.not_lt_zero, Nat.zero_le, Nat.reduceEqDiff, Nat.reduceLT, Nat.reduceLeDiff, true_or, or_true, false_or, or_false, not_true_eq_false, not_false_eq_true, true_imp_iff, false_imp_iff, and_self, wrd, u2, and_true, true_and, and_false, false_and, and_self, ite_true, ite_false, reduceIte]; exact x60) (by simp only [mj_cpok, mj_nn, reduceCtorEq, lg_self, Nat.not_lt_zero, Nat.zero_le, Nat.reduceEqDiff, Nat.reduceLT, Nat.reduceLeDiff, true_or, or_true, false_or, or_false, not_true_eq_false, not_false_eq_true, true_imp_iff, false_imp_iff, and_self, wrd, u2, and_true, true_and, and_false, false_and, and_self, ite_true, ite_false, reduceIte]; exact x61) (by simp only [mj_cpok, mj_nn, reduceCtorEq, lg_self, Nat.not_lt_zero, Nat.zero_le, Nat.reduceEqDiff, Nat.reduceLT, Nat.reduceLeDiff, true_or, or_true, false_or, or_false, not_true_eq_false, not_false_eq_true, true_imp_iff, false_imp_iff, and_self, wrd, u2, and_true, true_and, and_false, false_and, and_self, ite_true, ite_false, reduceIte])
        rcases hce with ⟨rfl, rfl⟩ | ⟨rfl, rfl⟩
        · have k1 : Q (.inl none) (sFI U 662 128 (Int32.ofNat 1)) := k0
          simp (disch := omega) only [e_121_0, e_121_1, e_121_4, e_121_5, e_121_8, e_121_9, e_121_10, e_121_12, e_121_15, e_121_16, e_121_18, e_121_21, e_121_22, e_121_24, e_121_27, e_121_28, e_121_29, e_121_30, e_121_33, e_121_34, e_121_35, e_121_38, e_121_39, e_121_41, e_121_44, e_121_45, e_121_46, e_121_49, e_121_50, e_121_53, e_121_56, e_121_57, e_121_58, e_121_61, e_121_64, e_121_65, e_121_67, e_121_70, e_121_71, e_121_74, e_121_75, e_121_78, i_lit, i_add, i_mul, i_m1, i_lt, i_le, i_eq, i_cl, i_in, i_ltN, i_Nlt, i_leN, i_Nle, i_eN, i_Ne, i_inN, i_l1, i_l2, mj_cpok, mj_nn, reduceCtorEq, lg_self, Nat.not_lt_zero, Nat.zero_le, Nat.reduceEqDiff, Nat.reduceLT, Nat.reduceLeDiff, true_or, or_true, false_or, or_false, not_true_eq_false, not_false_eq_true, true_imp_iff, false_imp_iff, and_self, wrd, u2, and_true, true_and, and_false, false_and, and_self, ite_true, ite_false, reduceIte, mK_n, x62]
          cases e <;> simp only [b2, Bool.false_eq_true, if_true, if_false] <;> simp (disch := omega) only [i_lit, i_add, i_mul, i_m1, i_lt, i_le, i_eq, i_cl, i_in, i_ltN, i_Nlt, i_leN, i_Nle, i_eN, i_Ne, i_inN, i_l1, i_l2, mj_cpok, mj_nn, reduceCtorEq, lg_self, Nat.not_lt_zero, Nat.zero_le, Nat.reduceEqDiff, Nat.reduceLT, Nat.reduceLeDiff, true_or, or_true, false_or, or_false, not_true_eq_false, not_false_eq_true, true_imp_iff, false_imp_iff, and_self, wrd, u2, and_true, true_and, and_false, false_and, and_self, ite_true, ite_false, reduceIte] <;> ((repeat' (first | (with_reducible refine And.intro ?_ ?_) | (with_reducible intro _)))) <;> first | omega | exact k1
        · cases e2
          · have k1 : Q (.inl none) (sFI U 662 128 (Int32.ofNat 0)) := k0
            have y62 : wFI U 662 128 = Int32.ofNat 0 := x62
            simp (disch := omega) only [e_121_0, e_121_1, e_121_4, e_121_5, e_121_8, e_121_9, e_121_10, e_121_12, e_121_15, e_121_16, e_121_18, e_121_21, e_121_22, e_121_24, e_121_27, e_121_28, e_121_29, e_121_30, e_121_33, e_121_34, e_121_35, e_121_38, e_121_39, e_121_41, e_121_44, e_121_45, e_121_46, e_121_49, e_121_50, e_121_53, e_121_56, e_121_57, e_121_58, e_121_61, e_121_64, e_121_65, e_121_67, e_121_70, e_121_71, e_121_74, e_121_75, e_121_78, i_lit, i_add, i_mul, i_m1, i_lt, i_le, i_eq, i_cl, i_in, i_ltN, i_Nlt, i_leN, i_Nle, i_eN, i_Ne, i_inN, i_l1, i_l2, mj_cpok, mj_nn, reduceCtorEq, lg_self, Nat.not_lt_zero, Nat.zero_le, Nat.reduceEqDiff, Nat.reduceLT, Nat.reduceLeDiff, true_or, or_true, false_or, or_false, not_true_eq_false, not_false_eq_true, true_imp_iff, false_imp_iff, and_self, wrd, u2, and_true, true_and, and_false, false_and, and_self, ite_true, ite_false, reduceIte, mK_n, y62]
            (repeat' (first | (with_reducible refine And.intro ?_ ?_) | (with_reducible intro _)))
            all_goals first | omega | exact k1
          · have k1 : Q (.inl none) (sFI U 662 128 (Int32.ofNat 1)) := k0
            have y62 : wFI U 662 128 = Int32.ofNat 1 := x62
            simp (disch := omega) only [e_121_0, e_121_1, e_121_4, e_121_5, e_121_8, e_121_9, e_121_10, e_121_12, e_121_15, e_121_16, e_121_18, e_121_21, e_121_22, e_121_24, e_121_27, e_121_28, e_121_29, e_121_30, e_121_33, e_121_34, e_121_35, e_121_38, e_121_39, e_121_41, e_121_44, e_121_45, e_121_46, e_121_49, e_121_50, e_121_53, e_121_56, e_121_57, e_121_58, e_121_61, e_121_64, e_121_65, e_121_67, e_121_70, e_121_71, e_121_74, e_121_75, e_121_78, i_lit, i_add, i_mul, i_m1, i_lt, i_le, i_eq, i_cl, i_in, i_ltN, i_Nlt, i_leN, i_Nle, i_eN, i_Ne, i_inN, i_l1, i_l2, mj_cpok, mj_nn, reduceCtorEq, lg_self, Nat.not_lt_zero, Nat.zero_le, Nat.reduceEqDiff, Nat.reduceLT, Nat.reduceLeDiff, true_or, or_true, false_or, or_false, not_true_eq_false, not_false_eq_true, true_imp_iff, false_imp_iff, and_self, wrd, u2, and_true, true_and, and_false, false_and, and_self, ite_true, ite_false, reduceIte, mK_n, y62]
            (repeat' (first | (with_reducible refine And.intro ?_ ?_) | (with_reducible intro _)))
            all_goals first | omega | exact k1
      by_cases q1 : sgn n B i' = 42
      · rw [if_pos q1] at K
        have nn := lk 42 true [] (Or.inl ⟨rfl, rfl⟩) K.2
        rw [q1, show sgI 42 = Int32.ofNat 42 from rfl]
        simp (disch := omega) only [e_121_0, e_121_1, e_121_4, e_121_5, e_121_8, e_121_9, e_121_10, e_121_12, e_121_15, e_121_16, e_121_18, e_121_21, e_121_22, e_121_24, e_121_27, e_121_28, e_121_29, e_121_30, e_121_33, e_121_34, e_121_35, e_121_38, e_121_39, e_121_41, e_121_44, e_121_45, e_121_46, e_121_49, e_121_50, e_121_53, e_121_56, e_121_57, e_121_58, e_121_61, e_121_64, e_121_65, e_121_67, e_121_70, e_121_71, e_121_74, e_121_75, e_121_78, i_lit, i_add, i_mul, i_m1, i_lt, i_le, i_eq, i_cl, i_in, i_ltN, i_Nlt, i_leN, i_Nle, i_eN, i_Ne, i_inN, i_l1, i_l2, mj_cpok, mj_nn, reduceCtorEq, lg_self, Nat.not_lt_zero, Nat.zero_le, Nat.reduceEqDiff, Nat.reduceLT, Nat.reduceLeDiff, true_or, or_true, false_or, or_false, not_true_eq_false, not_false_eq_true, true_imp_iff, false_imp_iff, and_self, wrd, u2, and_true, true_and, and_false, false_and, and_self, ite_true, ite_false, reduceIte, mK_v, r1, v60, v61]
        (repeat' (first | (with_reducible refine And.intro ?_ ?_) | (with_reducible intro _)))
        all_goals first | omega | exact nn
      · rw [if_neg q1] at K
        by_cases q2 : sgn n B i' = 43
        · rw [if_pos q2] at K
          have nn := lk 43 e [] (Or.inr ⟨rfl, rfl⟩) K.2
          rw [q2, show sgI 43 = Int32.ofNat 43 from rfl]
          simp (disch := omega) only [e_121_0, e_121_1, e_121_4, e_121_5, e_121_8, e_121_9, e_121_10, e_121_12, e_121_15, e_121_16, e_121_18, e_121_21, e_121_22, e_121_24, e_121_27, e_121_28, e_121_29, e_121_30, e_121_33, e_121_34, e_121_35, e_121_38, e_121_39, e_121_41, e_121_44, e_121_45, e_121_46, e_121_49, e_121_50, e_121_53, e_121_56, e_121_57, e_121_58, e_121_61, e_121_64, e_121_65, e_121_67, e_121_70, e_121_71, e_121_74, e_121_75, e_121_78, i_lit, i_add, i_mul, i_m1, i_lt, i_le, i_eq, i_cl, i_in, i_ltN, i_Nlt, i_leN, i_Nle, i_eN, i_Ne, i_inN, i_l1, i_l2, mj_cpok, mj_nn, reduceCtorEq, lg_self, Nat.not_lt_zero, Nat.zero_le, Nat.reduceEqDiff, Nat.reduceLT, Nat.reduceLeDiff, true_or, or_true, false_or, or_false, not_true_eq_false, not_false_eq_true, true_imp_iff, false_imp_iff, and_self, wrd, u2, and_true, true_and, and_false, false_and, and_self, ite_true, ite_false, reduceIte, mK_v, r1, v60, v61]
          (repeat' (first | (with_reducible refine And.intro ?_ ?_) | (with_reducible intro _)))
          all_goals first | omega | exact nn
        · rw [if_neg q2] at K
          by_cases q3 : sgn n B i' = 63
          · rw [if_pos q3] at K
            have F2 : Fr (fun k a => k = 662 ∧ a = 128) (fun _ => False) 0 0 (sFI V 658 128 (Int32.ofNat (i' + 1))) (sFI (sFI V 658 128 (Int32.ofNat (i' + 1))) 662 128 (Int32.ofNat 1)) := Fr_sFI Fr_refl (by omega)
            have k0 := K.2 (sFI (sFI V 658 128 (Int32.ofNat (i' + 1))) 662 128 (Int32.ofNat 1)) (Fr_sFI FW1 (by omega)) (rfU_tr UW1 (rfU_Fr F2 ⟨fun q => q, fun q => q, fun q => q⟩)) (by
              obtain ⟨a1, a2, a3, a4, a5⟩ := R1
              exact ⟨(Fr_fi F2 (by decide) (by omega)).trans a1, (Fr_fi F2 (by decide) (by omega)).trans a2, (Fr_fi F2 (by decide) (by omega)).trans a3, a4, a5⟩) ((Fr_fi F2 (by decide) (by omega)).trans w60) ((Fr_fi F2 (by decide) (by omega)).trans w61) (by simp only [mj_cpok, mj_nn, reduceCtorEq, lg_self, Nat.not_lt_zero, Nat.zero_le, Nat.reduceEqDiff, Nat.reduceLT, Nat.reduceLeDiff, true_or, or_true, false_or, or_false, not_true_eq_false, not_false_eq_true, true_imp_iff, false_imp_iff, and_self, wrd, u2, and_true, true_and, and_false, false_and, and_self, ite_true, ite_false, reduceIte]; rfl)
            rw [q3, show sgI 63 = Int32.ofNat 63 from rfl]
            cases e
            · have y62 : wFI V 662 128 = Int32.ofNat 0 := v62
              simp (disch := omega) only [e_121_0, e_121_1, e_121_4, e_121_5, e_121_8, e_121_9, e_121_10, e_121_12, e_121_15, e_121_16, e_121_18, e_121_21, e_121_22, e_121_24, e_121_27, e_121_28, e_121_29, e_121_30, e_121_33, e_121_34, e_121_35, e_121_38, e_121_39, e_121_41, e_121_44, e_121_45, e_121_46, e_121_49, e_121_50, e_121_53, e_121_56, e_121_57, e_121_58, e_121_61, e_121_64, e_121_65, e_121_67, e_121_70, e_121_71, e_121_74, e_121_75, e_121_78, i_lit, i_add, i_mul, i_m1, i_lt, i_le, i_eq, i_cl, i_in, i_ltN, i_Nlt, i_leN, i_Nle, i_eN, i_Ne, i_inN, i_l1, i_l2, mj_cpok, mj_nn, reduceCtorEq, lg_self, Nat.not_lt_zero, Nat.zero_le, Nat.reduceEqDiff, Nat.reduceLT, Nat.reduceLeDiff, true_or, or_true, false_or, or_false, not_true_eq_false, not_false_eq_true, true_imp_iff, false_imp_iff, and_self, wrd, u2, and_true, true_and, and_false, false_and, and_self, ite_true, ite_false, reduceIte, mK_v, r1, v60, v61, y62]
              (repeat' (first | (with_reducible refine And.intro ?_ ?_) | (with_reducible intro _)))
              all_goals first | omega | exact k0
            · have y62 : wFI V 662 128 = Int32.ofNat 1 := v62
              simp (disch := omega) only [e_121_0, e_121_1, e_121_4, e_121_5, e_121_8, e_121_9, e_121_10, e_121_12, e_121_15, e_121_16, e_121_18, e_121_21, e_121_22, e_121_24, e_121_27, e_121_28, e_121_29, e_121_30, e_121_33, e_121_34, e_121_35, e_121_38, e_121_39, e_121_41, e_121_44, e_121_45, e_121_46, e_121_49, e_121_50, e_121_53, e_121_56, e_121_57, e_121_58, e_121_61, e_121_64, e_121_65, e_121_67, e_121_70, e_121_71, e_121_74, e_121_75, e_121_78, i_lit, i_add, i_mul, i_m1, i_lt, i_le, i_eq, i_cl, i_in, i_ltN, i_Nlt, i_leN, i_Nle, i_eN, i_Ne, i_inN, i_l1, i_l2, mj_cpok, mj_nn, reduceCtorEq, lg_self, Nat.not_lt_zero, Nat.zero_le, Nat.reduceEqDiff, Nat.reduceLT, Nat.reduceLeDiff, true_or, or_true, false_or, or_false, not_true_eq_false, not_false_eq_true, true_imp_iff, false_imp_iff, and_self, wrd, u2, and_true, true_and, and_false, false_and, and_self, ite_true, ite_false, reduceIte, mK_v, r1, v60, v61, y62]
              (repeat' (first | (with_reducible refine And.intro ?_ ?_) | (with_reducible intro _)))
              all_goals first | omega | exact k0
          · rw [if_neg q3] at K
            have k0 := K.2 V hV hVU hR3 v60 v61 v62
            by_cases c9 : sgn n B i' = 256
            · rw [c9, sgI_e]
              simp (disch := omega) only [e_121_0, e_121_1, e_121_4, e_121_5, e_121_8, e_121_9, e_121_10, e_121_12, e_121_15, e_121_16, e_121_18, e_121_21, e_121_22, e_121_24, e_121_27, e_121_28, e_121_29, e_121_30, e_121_33, e_121_34, e_121_35, e_121_38, e_121_39, e_121_41, e_121_44, e_121_45, e_121_46, e_121_49, e_121_50, e_121_53, e_121_56, e_121_57, e_121_58, e_121_61, e_121_64, e_121_65, e_121_67, e_121_70, e_121_71, e_121_74, e_121_75, e_121_78, i_lit, i_add, i_mul, i_m1, i_lt, i_le, i_eq, i_cl, i_in, i_ltN, i_Nlt, i_leN, i_Nle, i_eN, i_Ne, i_inN, i_l1, i_l2, mj_cpok, mj_nn, reduceCtorEq, lg_self, Nat.not_lt_zero, Nat.zero_le, Nat.reduceEqDiff, Nat.reduceLT, Nat.reduceLeDiff, true_or, or_true, false_or, or_false, not_true_eq_false, not_false_eq_true, true_imp_iff, false_imp_iff, and_self, wrd, u2, and_true, true_and, and_false, false_and, and_self, ite_true, ite_false, reduceIte, mK_v]
              (repeat' (first | (with_reducible refine And.intro ?_ ?_) | (with_reducible intro _)))
              all_goals first | omega | exact k0
            · rw [sgI_n c9]
              simp (disch := omega) only [e_121_0, e_121_1, e_121_4, e_121_5, e_121_8, e_121_9, e_121_10, e_121_12, e_121_15, e_121_16, e_121_18, e_121_21, e_121_22, e_121_24, e_121_27, e_121_28, e_121_29, e_121_30, e_121_33, e_121_34, e_121_35, e_121_38, e_121_39, e_121_41, e_121_44, e_121_45, e_121_46, e_121_49, e_121_50, e_121_53, e_121_56, e_121_57, e_121_58, e_121_61, e_121_64, e_121_65, e_121_67, e_121_70, e_121_71, e_121_74, e_121_75, e_121_78, i_lit, i_add, i_mul, i_m1, i_lt, i_le, i_eq, i_cl, i_in, i_ltN, i_Nlt, i_leN, i_Nle, i_eN, i_Ne, i_inN, i_l1, i_l2, mj_cpok, mj_nn, reduceCtorEq, lg_self, Nat.not_lt_zero, Nat.zero_le, Nat.reduceEqDiff, Nat.reduceLT, Nat.reduceLeDiff, true_or, or_true, false_or, or_false, not_true_eq_false, not_false_eq_true, true_imp_iff, false_imp_iff, and_self, wrd, u2, and_true, true_and, and_false, false_and, and_self, ite_true, ite_false, reduceIte, mK_v]
              (repeat' (first | (with_reducible refine And.intro ?_ ?_) | (with_reducible intro _)))
              all_goals first | omega | exact k0
end RF
