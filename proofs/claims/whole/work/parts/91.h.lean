/-! addRule: the class's reader, items, rows, choices. -/
theorem clR_lk {W U : MWd} {r t i np : Nat} {fo fo' lt : Nat → Int32} (hr : r < 12) (h : Fr (fun _ _ => False) (fun a => a = 7 + 3 * r ∨ a = 46) 0 0 W U) (hW : clR W r t i np fo lt) (h7' : ∀ p, p < 30 → wAI U (7 + 3 * r) p = fo' p) : clR U r t i np fo' lt := by
  obtain ⟨h262, h261, h260, h326, h7, h8⟩ := hW
  refine ⟨(Fr_fi h (by decide) (fun q => q)).trans h262, (Fr_fi h (by decide) (fun q => q)).trans h261, (Fr_fi h (by decide) (fun q => q)).trans h260, (Fr_fi h (by omega) (fun q => q)).trans h326, h7', ?_⟩
  rw [Fr_ai h (by omega) (by omega)]; exact h8
section CL
variable {d : Nat} {S : Nat → Nat} {r : Nat}
theorem c_44 {dep : Nat} {A : PRd} (hS : sgOk S) (hr : r < 12) (hAp : pRdOk A) (hA : clOk S r 45 (d + 4) [some (vR (some (4, 0, 42))), some (vR (some (5, 0, 6 + 3 * r))), some (vI (Int32.ofNat dep)), none] A) :
    clOk S r 44 (d + 5) [some (vR (some (4, 0, 42))), some (vR (some (5, 0, 6 + 3 * r))), some (vI (Int32.ofNat dep)), none, none] (itemP S A) := by
  intro W t i np fo lt Q G hs hW ht hi hn hf K
  unfold itemP at K
  have hok := hAp i np fo lt hi hn hf
  simp (disch := omega) only [e_44_0, e_44_1, e_44_2, e_44_3, e_44_6, e_44_7, e_44_10, e_44_11, e_44_12, e_44_15, e_44_16, e_44_19, e_44_20, e_44_23, e_44_25, e_44_28, e_44_29, e_44_32, e_44_33, e_44_35, e_44_37, e_44_40, e_44_41, e_44_43, e_44_46, e_44_47, e_44_49, e_44_52, e_44_53, e_44_55, e_44_58, e_44_59, e_44_60, e_44_61, e_44_64, e_44_65, e_44_66, e_44_69, e_44_70, e_44_72, e_44_75, e_44_76, e_44_77, e_44_80, e_44_81, e_44_84, e_44_85, e_44_86, e_44_87, e_44_88, e_44_91, e_44_92, e_44_95, e_44_96, e_44_97, e_44_98, e_44_101, e_44_102, e_44_104, e_44_107, e_44_108, e_44_111, e_44_112, e_44_115, e_44_116, e_44_117, e_44_118, e_44_119, i_lit, i_add, i_mul, i_m1, i_lt, i_le, i_eq, i_cl, i_in, i_ltN, i_Nlt, i_leN, i_Nle, i_eN, i_Ne, i_inN, i_l1, i_l2, mj_cpok, mj_nn, reduceCtorEq, lg_self, Nat.not_lt_zero, Nat.zero_le, Nat.reduceEqDiff, Nat.reduceLT, Nat.reduceLeDiff, true_or, or_true, false_or, or_false, not_true_eq_false, not_false_eq_true, true_imp_iff, false_imp_iff, and_self, wrd, u2, and_true, true_and, and_false, false_and, and_self, ite_true, ite_false, reduceIte]
  refine hA W t i np fo lt _ G hs hW ht hi hn hf ?_
  cases hx : A i np fo lt with
  | inl e =>
    rw [hx] at K hok
    intro V hV v2 vd
    have k0 := K V hV v2 vd
    simp (disch := omega) only [e_44_0, e_44_1, e_44_2, e_44_3, e_44_6, e_44_7, e_44_10, e_44_11, e_44_12, e_44_15, e_44_16, e_44_19, e_44_20, e_44_23, e_44_25, e_44_28, e_44_29, e_44_32, e_44_33, e_44_35, e_44_37, e_44_40, e_44_41, e_44_43, e_44_46, e_44_47, e_44_49, e_44_52, e_44_53, e_44_55, e_44_58, e_44_59, e_44_60, e_44_61, e_44_64, e_44_65, e_44_66, e_44_69, e_44_70, e_44_72, e_44_75, e_44_76, e_44_77, e_44_80, e_44_81, e_44_84, e_44_85, e_44_86, e_44_87, e_44_88, e_44_91, e_44_92, e_44_95, e_44_96, e_44_97, e_44_98, e_44_101, e_44_102, e_44_104, e_44_107, e_44_108, e_44_111, e_44_112, e_44_115, e_44_116, e_44_117, e_44_118, e_44_119, i_lit, i_add, i_mul, i_m1, i_lt, i_le, i_eq, i_cl, i_in, i_ltN, i_Nlt, i_leN, i_Nle, i_eN, i_Ne, i_inN, i_l1, i_l2, mj_cpok, mj_nn, reduceCtorEq, lg_self, Nat.not_lt_zero, Nat.zero_le, Nat.reduceEqDiff, Nat.reduceLT, Nat.reduceLeDiff, true_or, or_true, false_or, or_false, not_true_eq_false, not_false_eq_true, true_imp_iff, false_imp_iff, and_self, wrd, u2, and_true, true_and, and_false, false_and, and_self, ite_true, ite_false, reduceIte, mK_n]
    refine c_52d hok v2 ?_
    simp (disch := omega) only [e_44_0, e_44_1, e_44_2, e_44_3, e_44_6, e_44_7, e_44_10, e_44_11, e_44_12, e_44_15, e_44_16, e_44_19, e_44_20, e_44_23, e_44_25, e_44_28, e_44_29, e_44_32, e_44_33, e_44_35, e_44_37, e_44_40, e_44_41, e_44_43, e_44_46, e_44_47, e_44_49, e_44_52, e_44_53, e_44_55, e_44_58, e_44_59, e_44_60, e_44_61, e_44_64, e_44_65, e_44_66, e_44_69, e_44_70, e_44_72, e_44_75, e_44_76, e_44_77, e_44_80, e_44_81, e_44_84, e_44_85, e_44_86, e_44_87, e_44_88, e_44_91, e_44_92, e_44_95, e_44_96, e_44_97, e_44_98, e_44_101, e_44_102, e_44_104, e_44_107, e_44_108, e_44_111, e_44_112, e_44_115, e_44_116, e_44_117, e_44_118, e_44_119, i_lit, i_add, i_mul, i_m1, i_lt, i_le, i_eq, i_cl, i_in, i_ltN, i_Nlt, i_leN, i_Nle, i_eN, i_Ne, i_inN, i_l1, i_l2, mj_cpok, mj_nn, reduceCtorEq, lg_self, Nat.not_lt_zero, Nat.zero_le, Nat.reduceEqDiff, Nat.reduceLT, Nat.reduceLeDiff, true_or, or_true, false_or, or_false, not_true_eq_false, not_false_eq_true, true_imp_iff, false_imp_iff, and_self, wrd, u2, and_true, true_and, and_false, false_and, and_self, ite_true, ite_false, reduceIte, mK_v]
    (repeat' (first | (with_reducible refine And.intro ?_ ?_) | (with_reducible intro _)))
    all_goals first | omega | exact k0
  | inr y =>
    obtain ⟨i', np', fo', lt', f, l, e⟩ := y
    rw [hx] at K hok
    intro V hV hc v44 v45 v46 vj
    obtain ⟨o1, o2, -⟩ := hok
    have GV := Fr_Gr hV G
    have hsV := clS_Fr hr hV hs
    have hb := hS i'
    have hb0 := hS i
    unfold opP at K
    dsimp only at K
    have hc2 := hc
    obtain ⟨u262, u261, u260, u326, u7, u8⟩ := hc
    have st : Int32.ofNat (t + 1) - Int32.ofNat 1 = Int32.ofNat t := by rw [i_sub (by omega)]; rfl
    have F1 : Fr cF1 (fun _ => False) 0 0 V (sFI V 261 42 (Int32.ofNat (i' + 1))) := Fr_sFI Fr_refl (by omega)
    have g2 : wFI (sFI V 261 42 (Int32.ofNat (i' + 1))) 262 42 = NN := by simp only [mj_cpok, mj_nn, reduceCtorEq, lg_self, Nat.not_lt_zero, Nat.zero_le, Nat.reduceEqDiff, Nat.reduceLT, Nat.reduceLeDiff, true_or, or_true, false_or, or_false, not_true_eq_false, not_false_eq_true, true_imp_iff, false_imp_iff, and_self, wrd, u2, and_true, true_and, and_false, false_and, and_self, ite_true, ite_false, reduceIte]; exact u262
    have g1 : wFI (sFI V 261 42 (Int32.ofNat (i' + 1))) 261 42 = Int32.ofNat (i' + 1) := by simp only [mj_cpok, mj_nn, reduceCtorEq, lg_self, Nat.not_lt_zero, Nat.zero_le, Nat.reduceEqDiff, Nat.reduceLT, Nat.reduceLeDiff, true_or, or_true, false_or, or_false, not_true_eq_false, not_false_eq_true, true_imp_iff, false_imp_iff, and_self, wrd, u2, and_true, true_and, and_false, false_and, and_self, ite_true, ite_false, reduceIte]
    have F1' : Fr (cF r) (cA r) 0 0 W (sFI V 261 42 (Int32.ofNat (i' + 1))) := Fr_trans (x := 0) (y := 0) hV (cF1_w F1)
    have G1 := Fr_Gr F1 GV
    simp (disch := omega) only [e_44_0, e_44_1, e_44_2, e_44_3, e_44_6, e_44_7, e_44_10, e_44_11, e_44_12, e_44_15, e_44_16, e_44_19, e_44_20, e_44_23, e_44_25, e_44_28, e_44_29, e_44_32, e_44_33, e_44_35, e_44_37, e_44_40, e_44_41, e_44_43, e_44_46, e_44_47, e_44_49, e_44_52, e_44_53, e_44_55, e_44_58, e_44_59, e_44_60, e_44_61, e_44_64, e_44_65, e_44_66, e_44_69, e_44_70, e_44_72, e_44_75, e_44_76, e_44_77, e_44_80, e_44_81, e_44_84, e_44_85, e_44_86, e_44_87, e_44_88, e_44_91, e_44_92, e_44_95, e_44_96, e_44_97, e_44_98, e_44_101, e_44_102, e_44_104, e_44_107, e_44_108, e_44_111, e_44_112, e_44_115, e_44_116, e_44_117, e_44_118, e_44_119, i_lit, i_add, i_mul, i_m1, i_lt, i_le, i_eq, i_cl, i_in, i_ltN, i_Nlt, i_leN, i_Nle, i_eN, i_Ne, i_inN, i_l1, i_l2, mj_cpok, mj_nn, reduceCtorEq, lg_self, Nat.not_lt_zero, Nat.zero_le, Nat.reduceEqDiff, Nat.reduceLT, Nat.reduceLeDiff, true_or, or_true, false_or, or_false, not_true_eq_false, not_false_eq_true, true_imp_iff, false_imp_iff, and_self, wrd, u2, and_true, true_and, and_false, false_and, and_self, ite_true, ite_false, reduceIte, mK_n]
    refine c_52 GV hS hsV u262 u261 o2 ?_
    have hc1 := clR_Fr hr F1 hc2 g2 g1
    generalize hV1 : sFI V 261 42 (Int32.ofNat (i' + 1)) = V1 at F1 g2 g1 F1' G1 hc1
    have w44 : wAI V1 44 = wAI V 44 := Fr_ai F1 (by decide) (fun q => q)
    have w45 : wAI V1 45 = wAI V 45 := Fr_ai F1 (by decide) (fun q => q)
    have w46 : wAI V1 46 = wAI V 46 := Fr_ai F1 (by decide) (fun q => q)
    -- what is owed after the sign is read
    have lk : ∀ (c : Nat) (e2 : Bool), (c = 42 ∧ e2 = true ∨ c = 43 ∧ e2 = e) → clK Q W r t (.inr (i' + 1, np', lkF fo' l f, lt', f, l, e2)) → mR (d + 4) V1 65 0 [some (vR (some (5, 0, 6 + 3 * r))), some (vI l), some (vI f), none] [] (mK (d + 5) 44 98 101 [some (vR (some (4, 0, 42))), some (vR (some (5, 0, 6 + 3 * r))), some (vI (Int32.ofNat dep)), some (vI (Int32.ofNat c)), some (vI (Int32.ofNat 1))] [] Q) := by
      intro c e2 hce k
      refine c_65 G1 hr (fun U hU h7 => ?_)
      have GU := Fr_Gr hU G1
      have FU : Fr (cF r) (cA r) 0 0 W U := Fr_trans (x := 0) (y := 0) F1' (Fr_weak hU (fun _ _ q => q.elim) (fun _ q => by omega) (Nat.le_refl _) (Nat.le_refl _))
      have x260 : wFI U 260 42 = Int32.ofNat (t + 1) := (Fr_fi hU (by decide) (fun q => q)).trans hc1.2.2.1
      have x44 : wAI U 44 = wAI V 44 := (Fr_ai hU (by decide) (by omega)).trans w44
      have x45 : wAI U 45 = wAI V 45 := (Fr_ai hU (by decide) (by omega)).trans w45
      have x46 : wAI U 46 = wAI V 46 := (Fr_ai hU (by decide) (by omega)).trans w46
      have h7' : ∀ p, p < 30 → wAI U (7 + 3 * r) p = lkF fo' l f p := fun p hp => by
        rw [h7 p hp]; unfold lkF; rw [hc1.2.2.2.2.1 p hp]
      rcases hce with ⟨rfl, rfl⟩ | ⟨rfl, rfl⟩
      · have FS : Fr (fun _ _ => False) (fun a => a = 7 + 3 * r ∨ a = 46) 0 0 V1 (sAI U 46 t (Int32.ofNat 1)) := Fr_sAI (Fr_weak hU (fun _ _ q => q) (fun _ q => Or.inl q) (Nat.le_refl _) (Nat.le_refl _)) (by omega)
        have k0 := k (sAI U 46 t (Int32.ofNat 1)) (Fr_sAI FU (by omega)) (clR_lk hr FS hc1 (fun p hp => by
            have n : ¬ (7 + 3 * r = 46) := by omega
            show u2 (wAI U) 46 t _ (7 + 3 * r) p = _
            unfold u2
            rw [if_neg (fun q => n q.1)]; exact h7' p hp)) (by simp only [mj_cpok, mj_nn, reduceCtorEq, lg_self, Nat.not_lt_zero, Nat.zero_le, Nat.reduceEqDiff, Nat.reduceLT, Nat.reduceLeDiff, true_or, or_true, false_or, or_false, not_true_eq_false, not_false_eq_true, true_imp_iff, false_imp_iff, and_self, wrd, u2, and_true, true_and, and_false, false_and, and_self, ite_true, ite_false, reduceIte]; rw [x44]; exact v44) (by simp only [mj_cpok, mj_nn, reduceCtorEq, lg_self, Nat.not_lt_zero, Nat.zero_le, Nat.reduceEqDiff, Nat.reduceLT, Nat.reduceLeDiff, true_or, or_true, false_or, or_false, not_true_eq_false, not_false_eq_true, true_imp_iff, false_imp_iff, and_self, wrd, u2, and_true, true_and, and_false, false_and, and_self, ite_true, ite_false, reduceIte]; rw [x45]; exact v45) (by simp only [mj_cpok, mj_nn, reduceCtorEq, lg_self, Nat.not_lt_zero, Nat.zero_le, Nat.reduceEqDiff, Nat.reduceLT, Nat.reduceLeDiff, true_or, or_true, false_or, or_false, not_true_eq_false, not_false_eq_true, true_imp_iff, false_imp_iff, and_self, wrd, u2, and_true, true_and, and_false, false_and, and_self, ite_true, ite_false, reduceIte]; rfl) (fun j hj => by
            have hne : ¬ j = t := by omega
            simp only [mj_cpok, mj_nn, reduceCtorEq, lg_self, Nat.not_lt_zero, Nat.zero_le, Nat.reduceEqDiff, Nat.reduceLT, Nat.reduceLeDiff, true_or, or_true, false_or, or_false, not_true_eq_false, not_false_eq_true, true_imp_iff, false_imp_iff, and_self, wrd, u2, and_true, true_and, and_false, false_and, and_self, ite_true, ite_false, reduceIte, hne]
            rw [x44, x45, x46]; exact vj j hj)
        simp (disch := omega) only [e_44_0, e_44_1, e_44_2, e_44_3, e_44_6, e_44_7, e_44_10, e_44_11, e_44_12, e_44_15, e_44_16, e_44_19, e_44_20, e_44_23, e_44_25, e_44_28, e_44_29, e_44_32, e_44_33, e_44_35, e_44_37, e_44_40, e_44_41, e_44_43, e_44_46, e_44_47, e_44_49, e_44_52, e_44_53, e_44_55, e_44_58, e_44_59, e_44_60, e_44_61, e_44_64, e_44_65, e_44_66, e_44_69, e_44_70, e_44_72, e_44_75, e_44_76, e_44_77, e_44_80, e_44_81, e_44_84, e_44_85, e_44_86, e_44_87, e_44_88, e_44_91, e_44_92, e_44_95, e_44_96, e_44_97, e_44_98, e_44_101, e_44_102, e_44_104, e_44_107, e_44_108, e_44_111, e_44_112, e_44_115, e_44_116, e_44_117, e_44_118, e_44_119, i_lit, i_add, i_mul, i_m1, i_lt, i_le, i_eq, i_cl, i_in, i_ltN, i_Nlt, i_leN, i_Nle, i_eN, i_Ne, i_inN, i_l1, i_l2, mj_cpok, mj_nn, reduceCtorEq, lg_self, Nat.not_lt_zero, Nat.zero_le, Nat.reduceEqDiff, Nat.reduceLT, Nat.reduceLeDiff, true_or, or_true, false_or, or_false, not_true_eq_false, not_false_eq_true, true_imp_iff, false_imp_iff, and_self, wrd, u2, and_true, true_and, and_false, false_and, and_self, ite_true, ite_false, reduceIte, mK_n, x260, st, g_259 GU]
        (repeat' (first | (with_reducible refine And.intro ?_ ?_) | (with_reducible intro _)))
        all_goals first | omega | exact k0
      · have FS : Fr (fun _ _ => False) (fun a => a = 7 + 3 * r ∨ a = 46) 0 0 V1 U := Fr_weak hU (fun _ _ q => q) (fun _ q => Or.inl q) (Nat.le_refl _) (Nat.le_refl _)
        have k0 := k U FU (clR_lk hr FS hc1 h7') (by rw [x44]; exact v44) (by rw [x45]; exact v45) (by rw [x46]; exact v46) (fun j hj => by rw [x44, x45, x46]; exact vj j hj)
        simp (disch := omega) only [e_44_0, e_44_1, e_44_2, e_44_3, e_44_6, e_44_7, e_44_10, e_44_11, e_44_12, e_44_15, e_44_16, e_44_19, e_44_20, e_44_23, e_44_25, e_44_28, e_44_29, e_44_32, e_44_33, e_44_35, e_44_37, e_44_40, e_44_41, e_44_43, e_44_46, e_44_47, e_44_49, e_44_52, e_44_53, e_44_55, e_44_58, e_44_59, e_44_60, e_44_61, e_44_64, e_44_65, e_44_66, e_44_69, e_44_70, e_44_72, e_44_75, e_44_76, e_44_77, e_44_80, e_44_81, e_44_84, e_44_85, e_44_86, e_44_87, e_44_88, e_44_91, e_44_92, e_44_95, e_44_96, e_44_97, e_44_98, e_44_101, e_44_102, e_44_104, e_44_107, e_44_108, e_44_111, e_44_112, e_44_115, e_44_116, e_44_117, e_44_118, e_44_119, i_lit, i_add, i_mul, i_m1, i_lt, i_le, i_eq, i_cl, i_in, i_ltN, i_Nlt, i_leN, i_Nle, i_eN, i_Ne, i_inN, i_l1, i_l2, mj_cpok, mj_nn, reduceCtorEq, lg_self, Nat.not_lt_zero, Nat.zero_le, Nat.reduceEqDiff, Nat.reduceLT, Nat.reduceLeDiff, true_or, or_true, false_or, or_false, not_true_eq_false, not_false_eq_true, true_imp_iff, false_imp_iff, and_self, wrd, u2, and_true, true_and, and_false, false_and, and_self, ite_true, ite_false, reduceIte, mK_n]
        (repeat' (first | (with_reducible refine And.intro ?_ ?_) | (with_reducible intro _)))
        all_goals first | omega | exact k0
    by_cases q1 : S i' = 42
    · rw [if_pos q1] at K
      have nn := lk 42 true (Or.inl ⟨rfl, rfl⟩) K
      rw [← hV1] at nn
      rw [q1, show sgI 42 = Int32.ofNat 42 from rfl]
      simp (disch := omega) only [e_44_0, e_44_1, e_44_2, e_44_3, e_44_6, e_44_7, e_44_10, e_44_11, e_44_12, e_44_15, e_44_16, e_44_19, e_44_20, e_44_23, e_44_25, e_44_28, e_44_29, e_44_32, e_44_33, e_44_35, e_44_37, e_44_40, e_44_41, e_44_43, e_44_46, e_44_47, e_44_49, e_44_52, e_44_53, e_44_55, e_44_58, e_44_59, e_44_60, e_44_61, e_44_64, e_44_65, e_44_66, e_44_69, e_44_70, e_44_72, e_44_75, e_44_76, e_44_77, e_44_80, e_44_81, e_44_84, e_44_85, e_44_86, e_44_87, e_44_88, e_44_91, e_44_92, e_44_95, e_44_96, e_44_97, e_44_98, e_44_101, e_44_102, e_44_104, e_44_107, e_44_108, e_44_111, e_44_112, e_44_115, e_44_116, e_44_117, e_44_118, e_44_119, i_lit, i_add, i_mul, i_m1, i_lt, i_le, i_eq, i_cl, i_in, i_ltN, i_Nlt, i_leN, i_Nle, i_eN, i_Ne, i_inN, i_l1, i_l2, mj_cpok, mj_nn, reduceCtorEq, lg_self, Nat.not_lt_zero, Nat.zero_le, Nat.reduceEqDiff, Nat.reduceLT, Nat.reduceLeDiff, true_or, or_true, false_or, or_false, not_true_eq_false, not_false_eq_true, true_imp_iff, false_imp_iff, and_self, wrd, u2, and_true, true_and, and_false, false_and, and_self, ite_true, ite_false, reduceIte, mK_v, u260, u261, st, g_257 GV, g_258 GV, g_259 GV, v44, v45]
      (repeat' (first | (with_reducible refine And.intro ?_ ?_) | (with_reducible intro _)))
      all_goals first | omega | exact nn
    · rw [if_neg q1] at K
      by_cases q2 : S i' = 43
      · rw [if_pos q2] at K
        have nn := lk 43 e (Or.inr ⟨rfl, rfl⟩) K
        rw [← hV1] at nn
        rw [q2, show sgI 43 = Int32.ofNat 43 from rfl]
        simp (disch := omega) only [e_44_0, e_44_1, e_44_2, e_44_3, e_44_6, e_44_7, e_44_10, e_44_11, e_44_12, e_44_15, e_44_16, e_44_19, e_44_20, e_44_23, e_44_25, e_44_28, e_44_29, e_44_32, e_44_33, e_44_35, e_44_37, e_44_40, e_44_41, e_44_43, e_44_46, e_44_47, e_44_49, e_44_52, e_44_53, e_44_55, e_44_58, e_44_59, e_44_60, e_44_61, e_44_64, e_44_65, e_44_66, e_44_69, e_44_70, e_44_72, e_44_75, e_44_76, e_44_77, e_44_80, e_44_81, e_44_84, e_44_85, e_44_86, e_44_87, e_44_88, e_44_91, e_44_92, e_44_95, e_44_96, e_44_97, e_44_98, e_44_101, e_44_102, e_44_104, e_44_107, e_44_108, e_44_111, e_44_112, e_44_115, e_44_116, e_44_117, e_44_118, e_44_119, i_lit, i_add, i_mul, i_m1, i_lt, i_le, i_eq, i_cl, i_in, i_ltN, i_Nlt, i_leN, i_Nle, i_eN, i_Ne, i_inN, i_l1, i_l2, mj_cpok, mj_nn, reduceCtorEq, lg_self, Nat.not_lt_zero, Nat.zero_le, Nat.reduceEqDiff, Nat.reduceLT, Nat.reduceLeDiff, true_or, or_true, false_or, or_false, not_true_eq_false, not_false_eq_true, true_imp_iff, false_imp_iff, and_self, wrd, u2, and_true, true_and, and_false, false_and, and_self, ite_true, ite_false, reduceIte, mK_v, u260, u261, st, g_257 GV, g_258 GV, g_259 GV, v44, v45]
        (repeat' (first | (with_reducible refine And.intro ?_ ?_) | (with_reducible intro _)))
        all_goals first | omega | exact nn
      · rw [if_neg q2] at K
        by_cases q3 : S i' = 63
        · rw [if_pos q3] at K
          have FS : Fr (fun _ _ => False) (fun a => a = 7 + 3 * r ∨ a = 46) 0 0 V1 (sAI V1 46 t (Int32.ofNat 1)) := Fr_sAI Fr_refl (by omega)
          have k0 := K (sAI V1 46 t (Int32.ofNat 1)) (Fr_sAI F1' (by omega)) (clR_lk hr FS hc1 (fun p hp => by
              have n : ¬ (7 + 3 * r = 46) := by omega
              show u2 (wAI V1) 46 t _ (7 + 3 * r) p = _
              unfold u2
              rw [if_neg (fun q => n q.1)]; exact hc1.2.2.2.2.1 p hp)) (by simp only [mj_cpok, mj_nn, reduceCtorEq, lg_self, Nat.not_lt_zero, Nat.zero_le, Nat.reduceEqDiff, Nat.reduceLT, Nat.reduceLeDiff, true_or, or_true, false_or, or_false, not_true_eq_false, not_false_eq_true, true_imp_iff, false_imp_iff, and_self, wrd, u2, and_true, true_and, and_false, false_and, and_self, ite_true, ite_false, reduceIte]; rw [w44]; exact v44) (by simp only [mj_cpok, mj_nn, reduceCtorEq, lg_self, Nat.not_lt_zero, Nat.zero_le, Nat.reduceEqDiff, Nat.reduceLT, Nat.reduceLeDiff, true_or, or_true, false_or, or_false, not_true_eq_false, not_false_eq_true, true_imp_iff, false_imp_iff, and_self, wrd, u2, and_true, true_and, and_false, false_and, and_self, ite_true, ite_false, reduceIte]; rw [w45]; exact v45) (by simp only [mj_cpok, mj_nn, reduceCtorEq, lg_self, Nat.not_lt_zero, Nat.zero_le, Nat.reduceEqDiff, Nat.reduceLT, Nat.reduceLeDiff, true_or, or_true, false_or, or_false, not_true_eq_false, not_false_eq_true, true_imp_iff, false_imp_iff, and_self, wrd, u2, and_true, true_and, and_false, false_and, and_self, ite_true, ite_false, reduceIte]; rfl) (fun j hj => by
              have hne : ¬ j = t := by omega
              simp only [mj_cpok, mj_nn, reduceCtorEq, lg_self, Nat.not_lt_zero, Nat.zero_le, Nat.reduceEqDiff, Nat.reduceLT, Nat.reduceLeDiff, true_or, or_true, false_or, or_false, not_true_eq_false, not_false_eq_true, true_imp_iff, false_imp_iff, and_self, wrd, u2, and_true, true_and, and_false, false_and, and_self, ite_true, ite_false, reduceIte, hne]
              rw [w44, w45, w46]; exact vj j hj)
          rw [← hV1] at k0
          rw [q3, show sgI 63 = Int32.ofNat 63 from rfl]
          simp (disch := omega) only [e_44_0, e_44_1, e_44_2, e_44_3, e_44_6, e_44_7, e_44_10, e_44_11, e_44_12, e_44_15, e_44_16, e_44_19, e_44_20, e_44_23, e_44_25, e_44_28, e_44_29, e_44_32, e_44_33, e_44_35, e_44_37, e_44_40, e_44_41, e_44_43, e_44_46, e_44_47, e_44_49, e_44_52, e_44_53, e_44_55, e_44_58, e_44_59, e_44_60, e_44_61, e_44_64, e_44_65, e_44_66, e_44_69, e_44_70, e_44_72, e_44_75, e_44_76, e_44_77, e_44_80, e_44_81, e_44_84, e_44_85, e_44_86, e_44_87, e_44_88, e_44_91, e_44_92, e_44_95, e_44_96, e_44_97, e_44_98, e_44_101, e_44_102, e_44_104, e_44_107, e_44_108, e_44_111, e_44_112, e_44_115, e_44_116, e_44_117, e_44_118, e_44_119, i_lit, i_add, i_mul, i_m1, i_lt, i_le, i_eq, i_cl, i_in, i_ltN, i_Nlt, i_leN, i_Nle, i_eN, i_Ne, i_inN, i_l1, i_l2, mj_cpok, mj_nn, reduceCtorEq, lg_self, Nat.not_lt_zero, Nat.zero_le, Nat.reduceEqDiff, Nat.reduceLT, Nat.reduceLeDiff, true_or, or_true, false_or, or_false, not_true_eq_false, not_false_eq_true, true_imp_iff, false_imp_iff, and_self, wrd, u2, and_true, true_and, and_false, false_and, and_self, ite_true, ite_false, reduceIte, mK_v, u260, u261, st, g_257 GV, g_258 GV, g_259 GV, v44, v45]
          (repeat' (first | (with_reducible refine And.intro ?_ ?_) | (with_reducible intro _)))
          all_goals first | omega | exact k0
        · rw [if_neg q3] at K
          have k0 := K V hV hc2 v44 v45 v46 vj
          by_cases c9 : S i' = 256
          · rw [c9, sgI_e]
            simp (disch := omega) only [e_44_0, e_44_1, e_44_2, e_44_3, e_44_6, e_44_7, e_44_10, e_44_11, e_44_12, e_44_15, e_44_16, e_44_19, e_44_20, e_44_23, e_44_25, e_44_28, e_44_29, e_44_32, e_44_33, e_44_35, e_44_37, e_44_40, e_44_41, e_44_43, e_44_46, e_44_47, e_44_49, e_44_52, e_44_53, e_44_55, e_44_58, e_44_59, e_44_60, e_44_61, e_44_64, e_44_65, e_44_66, e_44_69, e_44_70, e_44_72, e_44_75, e_44_76, e_44_77, e_44_80, e_44_81, e_44_84, e_44_85, e_44_86, e_44_87, e_44_88, e_44_91, e_44_92, e_44_95, e_44_96, e_44_97, e_44_98, e_44_101, e_44_102, e_44_104, e_44_107, e_44_108, e_44_111, e_44_112, e_44_115, e_44_116, e_44_117, e_44_118, e_44_119, i_lit, i_add, i_mul, i_m1, i_lt, i_le, i_eq, i_cl, i_in, i_ltN, i_Nlt, i_leN, i_Nle, i_eN, i_Ne, i_inN, i_l1, i_l2, mj_cpok, mj_nn, reduceCtorEq, lg_self, Nat.not_lt_zero, Nat.zero_le, Nat.reduceEqDiff, Nat.reduceLT, Nat.reduceLeDiff, true_or, or_true, false_or, or_false, not_true_eq_false, not_false_eq_true, true_imp_iff, false_imp_iff, and_self, wrd, u2, and_true, true_and, and_false, false_and, and_self, ite_true, ite_false, reduceIte, mK_v, u260, u261, st]
            (repeat' (first | (with_reducible refine And.intro ?_ ?_) | (with_reducible intro _)))
            all_goals first | omega | exact k0
          · rw [sgI_n c9]
            simp (disch := omega) only [e_44_0, e_44_1, e_44_2, e_44_3, e_44_6, e_44_7, e_44_10, e_44_11, e_44_12, e_44_15, e_44_16, e_44_19, e_44_20, e_44_23, e_44_25, e_44_28, e_44_29, e_44_32, e_44_33, e_44_35, e_44_37, e_44_40, e_44_41, e_44_43, e_44_46, e_44_47, e_44_49, e_44_52, e_44_53, e_44_55, e_44_58, e_44_59, e_44_60, e_44_61, e_44_64, e_44_65, e_44_66, e_44_69, e_44_70, e_44_72, e_44_75, e_44_76, e_44_77, e_44_80, e_44_81, e_44_84, e_44_85, e_44_86, e_44_87, e_44_88, e_44_91, e_44_92, e_44_95, e_44_96, e_44_97, e_44_98, e_44_101, e_44_102, e_44_104, e_44_107, e_44_108, e_44_111, e_44_112, e_44_115, e_44_116, e_44_117, e_44_118, e_44_119, i_lit, i_add, i_mul, i_m1, i_lt, i_le, i_eq, i_cl, i_in, i_ltN, i_Nlt, i_leN, i_Nle, i_eN, i_Ne, i_inN, i_l1, i_l2, mj_cpok, mj_nn, reduceCtorEq, lg_self, Nat.not_lt_zero, Nat.zero_le, Nat.reduceEqDiff, Nat.reduceLT, Nat.reduceLeDiff, true_or, or_true, false_or, or_false, not_true_eq_false, not_false_eq_true, true_imp_iff, false_imp_iff, and_self, wrd, u2, and_true, true_and, and_false, false_and, and_self, ite_true, ite_false, reduceIte, mK_v, u260, u261, st]
            (repeat' (first | (with_reducible refine And.intro ?_ ?_) | (with_reducible intro _)))
            all_goals first | omega | exact k0
end CL
