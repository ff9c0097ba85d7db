/-! addRule: the class's reader, the whole of a choice. -/
section CL
variable {d : Nat} {S : Nat → Nat} {r : Nat}
theorem c_43 {x2 : Int32} {I : PRd} (hS : sgOk S) (hr : r < 12) (hIp : pRdOk I) (hI : clOk S r 44 (d + 5) [some (vR (some (4, 0, 42))), some (vR (some (5, 0, 6 + 3 * r))), some (vI x2), none, none] I) :
    clOk S r 43 (d + 6) [some (vR (some (4, 0, 42))), some (vR (some (5, 0, 6 + 3 * r))), some (vI x2), none] (rowP S I) := by
  intro W t i np fo lt Q G hs hW ht hi hn hf K
  have hok := hIp i np fo lt hi hn hf
  unfold rowP at K
  simp (disch := omega) only [e_43_0, e_43_1, e_43_2, e_43_3, i_lit, i_add, i_mul, i_m1, i_lt, i_le, i_eq, i_cl, i_in, i_ltN, i_Nlt, i_leN, i_Nle, i_eN, i_Ne, i_inN, i_l1, i_l2, mj_cpok, mj_nn, reduceCtorEq, lg_self, Nat.not_lt_zero, Nat.zero_le, Nat.reduceEqDiff, Nat.reduceLT, Nat.reduceLeDiff, true_or, or_true, false_or, or_false, not_true_eq_false, not_false_eq_true, true_imp_iff, false_imp_iff, and_self, wrd, u2, and_true, true_and, and_false, false_and, and_self, ite_true, ite_false, reduceIte]
  refine hI W t i np fo lt _ G hs hW ht hi hn hf ?_
  cases hx : I i np fo lt with
  | inl er =>
    rw [hx] at K hok
    intro V hV v2 vd
    have nn := c_43d (d := d) (r := r) (x2 := x2) (j := 0) hok (by omega) v2 (K V hV v2 vd)
    simp (disch := omega) only [mK_n, e_43_6, e_43_7, i_lit, i_add, i_mul, i_m1, i_lt, i_le, i_eq, i_cl, i_in, i_ltN, i_Nlt, i_leN, i_Nle, i_eN, i_Ne, i_inN, i_l1, i_l2, mj_cpok, mj_nn, reduceCtorEq, lg_self, Nat.not_lt_zero, Nat.zero_le, Nat.reduceEqDiff, Nat.reduceLT, Nat.reduceLeDiff, true_or, or_true, false_or, or_false, not_true_eq_false, not_false_eq_true, true_imp_iff, false_imp_iff, and_self, wrd, u2, and_true, true_and, and_false, false_and, and_self, ite_true, ite_false, reduceIte]
    exact nn
  | inr y =>
    obtain ⟨i', np', fo', lt', f, l, e⟩ := y
    rw [hx] at K hok
    intro V hV hc v44 v45 v46 vj
    have nn := c_43l (d := d) (x2 := x2) hS hr hIp hI G hs (Q := Q) (t := t) 40 i' np' fo' lt' f l e V 0 (by omega) hok.2.1 (by have := hok.1; omega) (by have := hok.1; omega) hok.2.2.2.1 hok.2.2.2.2.2.2.1 hV hc v44 v45 v46 vj ⟨i, np, fo, lt, hok⟩ K
    simp (disch := omega) only [mK_n, e_43_6, e_43_7, i_lit, i_add, i_mul, i_m1, i_lt, i_le, i_eq, i_cl, i_in, i_ltN, i_Nlt, i_leN, i_Nle, i_eN, i_Ne, i_inN, i_l1, i_l2, mj_cpok, mj_nn, reduceCtorEq, lg_self, Nat.not_lt_zero, Nat.zero_le, Nat.reduceEqDiff, Nat.reduceLT, Nat.reduceLeDiff, true_or, or_true, false_or, or_false, not_true_eq_false, not_false_eq_true, true_imp_iff, false_imp_iff, and_self, wrd, u2, and_true, true_and, and_false, false_and, and_self, ite_true, ite_false, reduceIte]
    exact nn
theorem c_42l {x2 : Int32} {I : PRd} (hS : sgOk S) (hr : r < 12) (hIp : pRdOk I) (hI : clOk S r 43 (d + 6) [some (vR (some (4, 0, 42))), some (vR (some (5, 0, 6 + 3 * r))), some (vI x2), none] I) {W : MWd} (G : Gr W) (hs : clS S W) {Q : MRes → MWd → Prop} {t : Nat} :
    ∀ (k i np : Nat) (fo lt : Nat → Int32) (f l : Int32) (e : Bool) (V : MWd) (j : Nat), 40 ≤ i + k → i ≤ 40 → j + 1 ≤ i → t + 1 ≤ i → np ≤ 30 → (∀ p, np ≤ p → fo p = Int32.ofNat 0) → Fr (cF r) (cA r) 0 0 W V → clR V r (t + 1) i np fo lt → wAI V 44 t = f → wAI V 45 t = l → wAI V 46 t = b2 e → (∀ j, j < t → wAI V 44 j = wAI W 44 j ∧ wAI V 45 j = wAI W 45 j ∧ wAI V 46 j = wAI W 46 j) →
      clK Q W r t (eitL S I k (i, np, fo, lt, f, l, e)) → mR (d + 7) V 42 8 [some (vR (some (4, 0, 42))), some (vR (some (5, 0, 6 + 3 * r))), some (vI x2), some (vI (Int32.ofNat j))] [] Q := by
  have out : ∀ (i : Nat) (V : MWd) (j : Nat) (fo lt : Nat → Int32) (np : Nat), i ≤ 40 → S i ≠ 124 → Fr (cF r) (cA r) 0 0 W V → clR V r (t + 1) i np fo lt → Q (.inl none) V → j ≤ 40 → mR (d + 7) V 42 8 [some (vR (some (4, 0, 42))), some (vR (some (5, 0, 6 + 3 * r))), some (vI x2), some (vI (Int32.ofNat j))] [] Q := by
    intro i V j fo lt np hi c hF hc k0 hj
    have GV := Fr_Gr hF G
    have hsV := clS_Fr hr hF hs
    have hb := hS i
    rw [e_42_8]
    simp (disch := omega) only [e_42_9, e_42_11, e_42_14, e_42_15, e_42_49, i_lit, i_add, i_mul, i_m1, i_lt, i_le, i_eq, i_cl, i_in, i_ltN, i_Nlt, i_leN, i_Nle, i_eN, i_Ne, i_inN, i_l1, i_l2, mj_cpok, mj_nn, reduceCtorEq, lg_self, Nat.not_lt_zero, Nat.zero_le, Nat.reduceEqDiff, Nat.reduceLT, Nat.reduceLeDiff, true_or, or_true, false_or, or_false, not_true_eq_false, not_false_eq_true, true_imp_iff, false_imp_iff, and_self, wrd, u2, and_true, true_and, and_false, false_and, and_self, ite_true, ite_false, reduceIte]
    (repeat' (first | (with_reducible refine And.intro ?_ ?_) | (with_reducible intro _)))
    all_goals first
      | omega
      | exact k0
      | skip
    refine c_52 GV hS hsV hc.1 hc.2.1 hi ?_
    by_cases c9 : S i = 256
    · rw [c9, sgI_e]
      simp (disch := omega) only [mK_v, e_42_18, e_42_20, e_42_49, i_lit, i_add, i_mul, i_m1, i_lt, i_le, i_eq, i_cl, i_in, i_ltN, i_Nlt, i_leN, i_Nle, i_eN, i_Ne, i_inN, i_l1, i_l2, mj_cpok, mj_nn, reduceCtorEq, lg_self, Nat.not_lt_zero, Nat.zero_le, Nat.reduceEqDiff, Nat.reduceLT, Nat.reduceLeDiff, true_or, or_true, false_or, or_false, not_true_eq_false, not_false_eq_true, true_imp_iff, false_imp_iff, and_self, wrd, u2, and_true, true_and, and_false, false_and, and_self, ite_true, ite_false, reduceIte]
      (repeat' (first | (with_reducible refine And.intro ?_ ?_) | (with_reducible intro _)))
      all_goals first | omega | exact k0
    · rw [sgI_n c9]
      simp (disch := omega) only [mK_v, e_42_18, e_42_20, e_42_49, i_lit, i_add, i_mul, i_m1, i_lt, i_le, i_eq, i_cl, i_in, i_ltN, i_Nlt, i_leN, i_Nle, i_eN, i_Ne, i_inN, i_l1, i_l2, mj_cpok, mj_nn, reduceCtorEq, lg_self, Nat.not_lt_zero, Nat.zero_le, Nat.reduceEqDiff, Nat.reduceLT, Nat.reduceLeDiff, true_or, or_true, false_or, or_false, not_true_eq_false, not_false_eq_true, true_imp_iff, false_imp_iff, and_self, wrd, u2, and_true, true_and, and_false, false_and, and_self, ite_true, ite_false, reduceIte]
      (repeat' (first | (with_reducible refine And.intro ?_ ?_) | (with_reducible intro _)))
      all_goals first | omega | exact k0
  intro k
  induction k with
  | zero =>
    intro i np fo lt f l e V j hk hi hj ht hn hf hF hc a4 a5 a6 aj K
    have e40 : i = 40 := by omega
    subst e40
    have h256 := (hS 40).2 (Nat.le_refl _)
    exact out 40 V j fo lt np hi (by rw [h256]; decide) hF hc (K V hF hc a4 a5 a6 aj) (by omega)
  | succ k ih =>
    intro i np fo lt f l e V j hk hi hj ht hn hf hF hc a4 a5 a6 aj K
    have GV := Fr_Gr hF G
    have hsV := clS_Fr hr hF hs
    have hb := hS i
    unfold eitL at K
    by_cases c : S i = 124
    · rw [if_pos c] at K
      have hok := hIp (i + 1) np fo lt (by omega) hn hf
      have F1 : Fr cF1 (fun _ => False) 0 0 V (sFI V 261 42 (Int32.ofNat (i + 1))) := Fr_sFI Fr_refl (by omega)
      have g2 : wFI (sFI V 261 42 (Int32.ofNat (i + 1))) 262 42 = NN := by simp only [mj_cpok, mj_nn, reduceCtorEq, lg_self, Nat.not_lt_zero, Nat.zero_le, Nat.reduceEqDiff, Nat.reduceLT, Nat.reduceLeDiff, true_or, or_true, false_or, or_false, not_true_eq_false, not_false_eq_true, true_imp_iff, false_imp_iff, and_self, wrd, u2, and_true, true_and, and_false, false_and, and_self, ite_true, ite_false, reduceIte]; exact hc.1
      have g1 : wFI (sFI V 261 42 (Int32.ofNat (i + 1))) 261 42 = Int32.ofNat (i + 1) := by simp only [mj_cpok, mj_nn, reduceCtorEq, lg_self, Nat.not_lt_zero, Nat.zero_le, Nat.reduceEqDiff, Nat.reduceLT, Nat.reduceLeDiff, true_or, or_true, false_or, or_false, not_true_eq_false, not_false_eq_true, true_imp_iff, false_imp_iff, and_self, wrd, u2, and_true, true_and, and_false, false_and, and_self, ite_true, ite_false, reduceIte]
      have h261 := hc.2.1
      rw [e_42_8]
      simp (disch := omega) only [e_42_9, e_42_11, e_42_14, e_42_15, e_42_49, i_lit, i_add, i_mul, i_m1, i_lt, i_le, i_eq, i_cl, i_in, i_ltN, i_Nlt, i_leN, i_Nle, i_eN, i_Ne, i_inN, i_l1, i_l2, mj_cpok, mj_nn, reduceCtorEq, lg_self, Nat.not_lt_zero, Nat.zero_le, Nat.reduceEqDiff, Nat.reduceLT, Nat.reduceLeDiff, true_or, or_true, false_or, or_false, not_true_eq_false, not_false_eq_true, true_imp_iff, false_imp_iff, and_self, wrd, u2, and_true, true_and, and_false, false_and, and_self, ite_true, ite_false, reduceIte]
      (repeat' (first | (with_reducible refine And.intro ?_ ?_) | (with_reducible intro _)))
      all_goals try omega
      refine c_52 GV hS hsV hc.1 hc.2.1 hi ?_
      rw [c, show sgI 124 = Int32.ofNat 124 from rfl]
      simp (disch := omega) only [mK_v, e_42_18, e_42_20, e_42_23, e_42_24, e_42_25, e_42_28, e_42_29, e_42_30, e_42_33, e_42_34, e_42_35, e_42_36, i_lit, i_add, i_mul, i_m1, i_lt, i_le, i_eq, i_cl, i_in, i_ltN, i_Nlt, i_leN, i_Nle, i_eN, i_Ne, i_inN, i_l1, i_l2, mj_cpok, mj_nn, reduceCtorEq, lg_self, Nat.not_lt_zero, Nat.zero_le, Nat.reduceEqDiff, Nat.reduceLT, Nat.reduceLeDiff, true_or, or_true, false_or, or_false, not_true_eq_false, not_false_eq_true, true_imp_iff, false_imp_iff, and_self, wrd, u2, and_true, true_and, and_false, false_and, and_self, ite_true, ite_false, reduceIte, h261]
      (repeat' (first | (with_reducible refine And.intro ?_ ?_) | (with_reducible intro _)))
      all_goals try omega
      generalize sFI V 261 42 (Int32.ofNat (i + 1)) = V1 at F1 g2 g1 ⊢
      have hc1 := clR_Fr hr F1 hc g2 g1
      have hF1 : Fr (cF r) (cA r) 0 0 W V1 := Fr_trans (x := 0) (y := 0) hF (cF1_w F1)
      refine hI V1 (t + 1) (i + 1) np fo lt _ (Fr_Gr F1 GV) (clS_Fr hr hF1 hs) hc1 (by omega) (by omega) hn hf ?_
      cases hx : I (i + 1) np fo lt with
      | inl er =>
        rw [hx] at K hok
        intro V2 hV2 v2 vd
        have k0 := K V2 (Fr_trans (x := 0) (y := 0) hF1 hV2) v2 (clD_up vd ((cF1_s F1 t).2.2.trans a6) (fun j hj => (cF1_s F1 j).2.2.trans (aj j hj).2.2))
        have nn := c_42d (d := d) (r := r) (x2 := x2) (j := j + 1) hok (by omega) v2 k0
        have n57 : mR (d + 6) V2 57 0 [some (vR (some (4, 0, 42))), none, none] [] (mK (d + 7) 42 40 43 [some (vR (some (4, 0, 42))), some (vR (some (5, 0, 6 + 3 * r))), some (vI x2), some (vI (Int32.ofNat j))] [] Q) := by
          refine c_57d (d := d + 5) hok v2 ?_
          simp (disch := omega) only [mK_n, e_42_43, e_42_46, i_lit, i_add, i_mul, i_m1, i_lt, i_le, i_eq, i_cl, i_in, i_ltN, i_Nlt, i_leN, i_Nle, i_eN, i_Ne, i_inN, i_l1, i_l2, mj_cpok, mj_nn, reduceCtorEq, lg_self, Nat.not_lt_zero, Nat.zero_le, Nat.reduceEqDiff, Nat.reduceLT, Nat.reduceLeDiff, true_or, or_true, false_or, or_false, not_true_eq_false, not_false_eq_true, true_imp_iff, false_imp_iff, and_self, wrd, u2, and_true, true_and, and_false, false_and, and_self, ite_true, ite_false, reduceIte]
          exact nn
        simp (disch := omega) only [mK_n, e_42_39, e_42_40, i_lit, i_add, i_mul, i_m1, i_lt, i_le, i_eq, i_cl, i_in, i_ltN, i_Nlt, i_leN, i_Nle, i_eN, i_Ne, i_inN, i_l1, i_l2, mj_cpok, mj_nn, reduceCtorEq, lg_self, Nat.not_lt_zero, Nat.zero_le, Nat.reduceEqDiff, Nat.reduceLT, Nat.reduceLeDiff, true_or, or_true, false_or, or_false, not_true_eq_false, not_false_eq_true, true_imp_iff, false_imp_iff, and_self, wrd, u2, and_true, true_and, and_false, false_and, and_self, ite_true, ite_false, reduceIte]
        exact n57
      | inr y =>
        obtain ⟨i', np', fo', lt', f', l', e'⟩ := y
        rw [hx] at K hok
        intro V2 hV2 hc2 v44 v45 v46 vj
        obtain ⟨o1, o2, o3, o4, o5, o6, o7, o8, o9⟩ := hok
        have G2 := Fr_Gr hV2 (Fr_Gr F1 GV)
        have F2 : Fr (cF r) (cA r) 0 0 W V2 := Fr_trans (x := 0) (y := 0) hF1 hV2
        obtain ⟨w4, w5, w6⟩ := vj t (Nat.lt_succ_self t)
        obtain ⟨z4, z5, z6⟩ := cF1_s F1 t
        obtain ⟨u262, u261, u260, u326, u7, u8⟩ := hc2
        have n57 : mR (d + 6) V2 57 0 [some (vR (some (4, 0, 42))), none, none] [] (mK (d + 7) 42 40 43 [some (vR (some (4, 0, 42))), some (vR (some (5, 0, 6 + 3 * r))), some (vI x2), some (vI (Int32.ofNat j))] [] Q) := by
          refine c_57 (d := d + 5) G2 (t := t) (f := f) (l := l) (f' := f') (l' := l') (e := e) (e' := e') (by omega) u262 u260 (w4.trans (z4.trans a4)) (w5.trans (z5.trans a5)) (w6.trans (z6.trans a6)) v44 v45 v46 (fun U hU x0 x4 x5 x6 xj => ?_)
          have FU : Fr (cF r) (cA r) 0 0 W U := Fr_trans (x := 0) (y := 0) F2 (Fr_weak hU (fun _ _ q => by omega) (fun _ q => by omega) (Nat.le_refl _) (Nat.le_refl _))
          have nn := ih i' np' fo' lt' (f ||| f') (l ||| l') (e || e') U (j + 1) (by omega) o2 (by omega) (by omega) o4 o7 FU
            ⟨(Fr_fi hU (by decide) (by omega)).trans u262, (Fr_fi hU (by decide) (by omega)).trans u261, x0, (Fr_fi hU (by omega) (by omega)).trans u326, by rw [Fr_ai hU (by omega) (by omega)]; exact u7, by rw [Fr_ai hU (by omega) (by omega)]; exact u8⟩ x4 x5 x6 (fun j hj => by
              have y1 := xj j hj
              have y2 := vj j (by omega)
              have y3 := cF1_s F1 j
              have y4 := aj j hj
              exact ⟨y1.1.trans (y2.1.trans (y3.1.trans y4.1)), y1.2.1.trans (y2.2.1.trans (y3.2.1.trans y4.2.1)), y1.2.2.trans (y2.2.2.trans (y3.2.2.trans y4.2.2))⟩) K
          simp (disch := omega) only [mK_n, e_42_43, e_42_46, i_lit, i_add, i_mul, i_m1, i_lt, i_le, i_eq, i_cl, i_in, i_ltN, i_Nlt, i_leN, i_Nle, i_eN, i_Ne, i_inN, i_l1, i_l2, mj_cpok, mj_nn, reduceCtorEq, lg_self, Nat.not_lt_zero, Nat.zero_le, Nat.reduceEqDiff, Nat.reduceLT, Nat.reduceLeDiff, true_or, or_true, false_or, or_false, not_true_eq_false, not_false_eq_true, true_imp_iff, false_imp_iff, and_self, wrd, u2, and_true, true_and, and_false, false_and, and_self, ite_true, ite_false, reduceIte]
          exact nn
        simp (disch := omega) only [mK_n, e_42_39, e_42_40, i_lit, i_add, i_mul, i_m1, i_lt, i_le, i_eq, i_cl, i_in, i_ltN, i_Nlt, i_leN, i_Nle, i_eN, i_Ne, i_inN, i_l1, i_l2, mj_cpok, mj_nn, reduceCtorEq, lg_self, Nat.not_lt_zero, Nat.zero_le, Nat.reduceEqDiff, Nat.reduceLT, Nat.reduceLeDiff, true_or, or_true, false_or, or_false, not_true_eq_false, not_false_eq_true, true_imp_iff, false_imp_iff, and_self, wrd, u2, and_true, true_and, and_false, false_and, and_self, ite_true, ite_false, reduceIte]
        exact n57
    · rw [if_neg c] at K
      exact out i V j fo lt np hi c hF hc (K V hF hc a4 a5 a6 aj) (by omega)
theorem c_42 {x2 : Int32} {I : PRd} (hS : sgOk S) (hr : r < 12) (hIp : pRdOk I) (hI : clOk S r 43 (d + 6) [some (vR (some (4, 0, 42))), some (vR (some (5, 0, 6 + 3 * r))), some (vI x2), none] I) :
    clOk S r 42 (d + 7) [some (vR (some (4, 0, 42))), some (vR (some (5, 0, 6 + 3 * r))), some (vI x2), none] (eitP S I) := by
  intro W t i np fo lt Q G hs hW ht hi hn hf K
  have hok := hIp i np fo lt hi hn hf
  unfold eitP at K
  simp (disch := omega) only [e_42_0, e_42_1, e_42_2, e_42_3, i_lit, i_add, i_mul, i_m1, i_lt, i_le, i_eq, i_cl, i_in, i_ltN, i_Nlt, i_leN, i_Nle, i_eN, i_Ne, i_inN, i_l1, i_l2, mj_cpok, mj_nn, reduceCtorEq, lg_self, Nat.not_lt_zero, Nat.zero_le, Nat.reduceEqDiff, Nat.reduceLT, Nat.reduceLeDiff, true_or, or_true, false_or, or_false, not_true_eq_false, not_false_eq_true, true_imp_iff, false_imp_iff, and_self, wrd, u2, and_true, true_and, and_false, false_and, and_self, ite_true, ite_false, reduceIte]
  refine hI W t i np fo lt _ G hs hW ht hi hn hf ?_
  cases hx : I i np fo lt with
  | inl er =>
    rw [hx] at K hok
    intro V hV v2 vd
    have nn := c_42d (d := d) (r := r) (x2 := x2) (j := 0) hok (by omega) v2 (K V hV v2 vd)
    simp (disch := omega) only [mK_n, e_42_6, e_42_7, i_lit, i_add, i_mul, i_m1, i_lt, i_le, i_eq, i_cl, i_in, i_ltN, i_Nlt, i_leN, i_Nle, i_eN, i_Ne, i_inN, i_l1, i_l2, mj_cpok, mj_nn, reduceCtorEq, lg_self, Nat.not_lt_zero, Nat.zero_le, Nat.reduceEqDiff, Nat.reduceLT, Nat.reduceLeDiff, true_or, or_true, false_or, or_false, not_true_eq_false, not_false_eq_true, true_imp_iff, false_imp_iff, and_self, wrd, u2, and_true, true_and, and_false, false_and, and_self, ite_true, ite_false, reduceIte]
    exact nn
  | inr y =>
    obtain ⟨i', np', fo', lt', f, l, e⟩ := y
    rw [hx] at K hok
    intro V hV hc v44 v45 v46 vj
    have nn := c_42l (d := d) (x2 := x2) hS hr hIp hI G hs (Q := Q) (t := t) 40 i' np' fo' lt' f l e V 0 (by omega) hok.2.1 (by have := hok.1; omega) (by have := hok.1; omega) hok.2.2.2.1 hok.2.2.2.2.2.2.1 hV hc v44 v45 v46 vj K
    simp (disch := omega) only [mK_n, e_42_6, e_42_7, i_lit, i_add, i_mul, i_m1, i_lt, i_le, i_eq, i_cl, i_in, i_ltN, i_Nlt, i_leN, i_Nle, i_eN, i_Ne, i_inN, i_l1, i_l2, mj_cpok, mj_nn, reduceCtorEq, lg_self, Nat.not_lt_zero, Nat.zero_le, Nat.reduceEqDiff, Nat.reduceLT, Nat.reduceLeDiff, true_or, or_true, false_or, or_false, not_true_eq_false, not_false_eq_true, true_imp_iff, false_imp_iff, and_self, wrd, u2, and_true, true_and, and_false, false_and, and_self, ite_true, ite_false, reduceIte]
    exact nn
/-- the reader of the class, at every depth of groups -/
theorem c_G (hS : sgOk S) (hr : r < 12) : ∀ (g d dep : Nat), dep + g = 6 → clOk S r 42 (d + 5 * g + 7) [some (vR (some (4, 0, 42))), some (vR (some (5, 0, 6 + 3 * r))), some (vI (Int32.ofNat dep)), none] (eitG S g)
  | 0, d, dep, h => by
    have a := atomP_ok hS (sub := none) (fun R h => by cases h)
    exact c_42 hS hr (rowP_ok hS (itemP_ok hS a)) (c_43 hS hr (itemP_ok hS a) (c_44 hS hr a (c_45 hS hr (Or.inl ⟨by omega, rfl⟩))))
  | g + 1, d, dep, h => by
    have ih := c_G hS hr g d (dep + 1) (by omega)
    have a := atomP_ok hS (sub := some (eitG S g)) (fun R h => by cases h; exact eitG_ok hS g)
    have e : d + 5 * (g + 1) + 7 = (d + 5 * g + 5) + 7 := by omega
    rw [e]
    exact c_42 hS hr (rowP_ok hS (itemP_ok hS a)) (c_43 hS hr (itemP_ok hS a) (c_44 hS hr a (c_45 hS hr (Or.inr ⟨by omega, eitG S g, rfl, eitG_ok hS g, ih⟩))))
end CL
